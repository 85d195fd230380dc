def f_X7_larger_1 (k : Nat) (x1 : Int64) (w_5 : Int32) (w_6 : Int64) : Int64 := if w_6 = (0 : Int64) then (0 : Int64) else (f_X7_round k (f_X7_minus k x1) w_6 ((f_X7_power k x1) - (9 : Int32)) w_5)
def f_X7_larger_2 (k : Nat) (x1 : Int64) (v6_1 : Int64) (w_4 : Int64) (w_5 : Int32) (w_7 : Int32) : Int64 := (f_X7_larger_1 k x1 w_5 ((v6_1 - w_4) - ((w_7).toInt64)))
def f_X7_larger_3 (k : Nat) (x1 : Int64) (v6_1 : Int64) (w_4 : Int64) (w_5 : Int32) : Int64 := if w_5 = 0 then (f_X7_larger_2 k x1 v6_1 w_4 w_5 (0 : Int32)) else (f_X7_larger_2 k x1 v6_1 w_4 w_5 (1 : Int32))
def f_X7_larger_4 (k : Nat) (x1 : Int64) (x2 : Int64) (v6_1 : Int64) (w_4 : Int64) (w_5 : Int32) : Int64 := if (f_X7_minus k x1) = (f_X7_minus k x2) then (f_X7_larger_1 k x1 w_5 (v6_1 + w_4)) else (f_X7_larger_3 k x1 v6_1 w_4 w_5)
def f_X7_larger_5 (k : Nat) (x1 : Int64) (x2 : Int64) (v6_1 : Int64) (w_4 : Int64) : Int64 := (f_X7_larger_4 k x1 x2 v6_1 w_4 (1 : Int32))
def f_X7_larger_6 (k : Nat) (x1 : Int64) (x2 : Int64) (v6_1 : Int64) (v8_2 : Int64) (v10_3 : Int32) (w_4 : Int64) : Int64 := if (jlshl w_4 v10_3) = v8_2 then (f_X7_larger_4 k x1 x2 v6_1 w_4 (0 : Int32)) else (f_X7_larger_5 k x1 x2 v6_1 w_4)
def f_X7_larger_7 (k : Nat) (x1 : Int64) (x2 : Int64) (v6_1 : Int64) (v8_2 : Int64) (v10_3 : Int32) (w_4 : Int64) : Int64 := if (62 : Int32) < v10_3 then (f_X7_larger_5 k x1 x2 v6_1 w_4) else (f_X7_larger_6 k x1 x2 v6_1 v8_2 v10_3 w_4)
def f_X7_larger_8 (k : Nat) (x1 : Int64) (x2 : Int64) (v6_1 : Int64) (v8_2 : Int64) (v10_3 : Int32) : Int64 := if v10_3 ≤ (62 : Int32) then (f_X7_larger_7 k x1 x2 v6_1 v8_2 v10_3 (jlshr v8_2 v10_3)) else (f_X7_larger_7 k x1 x2 v6_1 v8_2 v10_3 (0 : Int64))
def f_X7_larger (k : Nat) (x1 : Int64) (x2 : Int64) : Int64 := (f_X7_larger_8 k x1 x2 (jlshl (f_X7_mantissa k x1) (9 : Int32)) (jlshl (f_X7_mantissa k x2) (9 : Int32)) ((f_X7_power k x1) - (f_X7_power k x2)))
def zX7_larger : List Cond := .code yX7_larger cX7_larger 16 (some .long) :: zall
theorem iX7_larger : MWv RX7 yX7_larger (.code yX7_larger cX7_larger 16 (some .long)) := ⟨(zin__r21 (.instanceMethod yX7_larger) (List.mem_of_getElem? (i := 7) rfl)), (zin__r21 (.selects RX7 yX7_larger yX7_larger) (List.mem_of_getElem? (i := 8) rfl)), (zin__r1 (.initialized RX7) (List.mem_of_getElem? (i := 5) rfl)), (zin__r21 (.code yX7_larger cX7_larger 16 (some .long)) (List.mem_of_getElem? (i := 9) rfl))⟩
set_option maxHeartbeats 4000000 in
set_option maxRecDepth 100000 in
theorem c_X7_larger (l : Launch) (o : Nat) (r : Nat → Nat) (k : Nat) (h_k : k < 2) (x1 : Int64) (x2 : Int64) (hz1 : 0 < (f_X7_unsigned k x1).toInt ∧ f_X7_unsigned k x1 ≤ kinf k) (hz2 : 0 < (f_X7_unsigned k x2).toInt ∧ f_X7_unsigned k x2 ≤ kinf k) : Met l yX7_larger zX7_larger ({ frames := 2, cells := 0, slots := 0, locals := 59 }) (va_Pc [.ref o, .int (nI k), .long x1, .long x2] (fun U => mU o r U)) (vp_Sl (fun r => r = f_X7_larger k x1 x2)) 0 0 (fun _ => False) := by
  refine Met.ofW (cc := cX7_larger) (maxL := 16) (ret := (some .long)) (by decide) rfl ?_
  intro p e s m args below meth c s₁ B hml hv
  obtain ⟨rfl, hm⟩ := hv
  have hx := B.exec
  have hb := B.bytes
  have hr := B.returns
  have hts : ∀ w ∈ zall, w.before _ s = true := fun w h => atoms_spec (ws := zX7_larger) B.pre w (List.mem_cons_of_mem _ h)
  have hown : s.vm.findClass RX7 = some m.cls := findClass_of_methodNamed B.named
  have hlocks := B.notSynchronized
  have hl := lv_entry ([.ref o, .int (nI k), .long x1, .long x2]) (n := 16) (Nat.le_of_ble_eq_true rfl)
  rw [lg_entry_eq]
  generalize (lg_sl ([.ref o, .int (nI k), .long x1, .long x2]) ++ List.replicate (16 - (lg_sl ([.ref o, .int (nI k), .long x1, .long x2])).length) Slot.unset).toArray = ls at hl ⊢
  have hl : lv_has ls 16 [(0, .ref o), (1, .int (nI k)), (2, .long x1), (4, .long x2)] := hl
  have hf : f_X7_larger k x1 x2 = (f_X7_larger_8 k x1 x2 (jlshl (f_X7_mantissa k x1) (9 : Int32)) (jlshl (f_X7_mantissa k x2) (9 : Int32)) ((f_X7_power k x1) - (f_X7_power k x2))) := rfl
  refine lv_aload_n hx hb dX7_larger_0 rfl (lv_at hl 0 rfl) ?_
  refine lv_iload_n hx hb dX7_larger_1 rfl (lv_at hl 1 rfl) ?_
  refine lv_lload_n hx hb dX7_larger_2 rfl (lv_at hl 2 rfl) ?_
  refine vp_callSl (va_Run.run (va_runV (As := [.int (nI k), .long x1]) (rest := []) ⟨hx, hb, hml, hown, hts⟩ (c_X7_mantissa l o r k h_k x1 hz1) (cwV 2 hts (gV iX7_mantissa (zin__r13 (.methodLink RX7 119 yX7_mantissa) (List.mem_of_getElem? (i := 3) rfl))) rfl rfl rfl (by decide +kernel) ⟨Nat.le_of_ble_eq_true rfl, Nat.le_of_ble_eq_true rfl⟩) ⟨fun a U g mk q => ⟨q.1, mU_bl q.2⟩, (mU_rv hm), fun U hU hW => ⟨rfl, mU_mv hm hU hW⟩⟩ rfl rfl hl.1 rfl (lv_room (Nat.le_of_ble_eq_true rfl)) dX7_larger_3 ⟨Nat.zero_le _, Nat.zero_le _⟩)) (fun r_3 hr_3 => ?_)
  subst hr_3
  refine lv_bipush (v := 9) hx hb dX7_larger_6 (by decide) ?_
  refine lv_lshl (v := (jlshl (f_X7_mantissa k x1) (9 : Int32))) hx hb dX7_larger_8 rfl ?_
  refine lv_topl (fun v6_1 e_v6_1 => ?_)
  have hf : f_X7_larger k x1 x2 = (f_X7_larger_8 k x1 x2 v6_1 (jlshl (f_X7_mantissa k x2) (9 : Int32)) ((f_X7_power k x1) - (f_X7_power k x2))) := hf.trans (congrArg (fun z => (f_X7_larger_8 k x1 x2 z (jlshl (f_X7_mantissa k x2) (9 : Int32)) ((f_X7_power k x1) - (f_X7_power k x2)))) e_v6_1.symm)
  refine lv_lstore (lv' := [(6, .long v6_1), (0, .ref o), (1, .int (nI k)), (2, .long x1), (4, .long x2)]) hx hb dX7_larger_9 hl (by decide) rfl (fun ls hl => ?_)
  refine lv_aload_n hx hb dX7_larger_11 rfl (lv_at hl 1 rfl) ?_
  refine lv_iload_n hx hb dX7_larger_12 rfl (lv_at hl 2 rfl) ?_
  refine lv_lload hx hb dX7_larger_13 (lv_at hl 4 rfl) ?_
  refine vp_callSl (va_Run.run (va_runV (As := [.int (nI k), .long x2]) (rest := []) ⟨hx, hb, hml, hown, hts⟩ (c_X7_mantissa l o r k h_k x2 hz2) (cwV 2 hts (gV iX7_mantissa (zin__r13 (.methodLink RX7 119 yX7_mantissa) (List.mem_of_getElem? (i := 3) rfl))) rfl rfl rfl (by decide +kernel) ⟨Nat.le_of_ble_eq_true rfl, Nat.le_of_ble_eq_true rfl⟩) ⟨fun a U g mk q => ⟨q.1, mU_bl q.2⟩, (mU_rv hm), fun U hU hW => ⟨rfl, mU_mv hm hU hW⟩⟩ rfl rfl hl.1 rfl (lv_room (Nat.le_of_ble_eq_true rfl)) dX7_larger_15 ⟨Nat.zero_le _, Nat.zero_le _⟩)) (fun r_15 hr_15 => ?_)
  subst hr_15
  refine lv_bipush (v := 9) hx hb dX7_larger_18 (by decide) ?_
  refine lv_lshl (v := (jlshl (f_X7_mantissa k x2) (9 : Int32))) hx hb dX7_larger_20 rfl ?_
  refine lv_topl (fun v8_2 e_v8_2 => ?_)
  have hf : f_X7_larger k x1 x2 = (f_X7_larger_8 k x1 x2 v6_1 v8_2 ((f_X7_power k x1) - (f_X7_power k x2))) := hf.trans (congrArg (fun z => (f_X7_larger_8 k x1 x2 v6_1 z ((f_X7_power k x1) - (f_X7_power k x2)))) e_v8_2.symm)
  refine lv_lstore (lv' := [(8, .long v8_2), (6, .long v6_1), (0, .ref o), (1, .int (nI k)), (2, .long x1), (4, .long x2)]) hx hb dX7_larger_21 hl (by decide) rfl (fun ls hl => ?_)
  refine lv_aload_n hx hb dX7_larger_23 rfl (lv_at hl 2 rfl) ?_
  refine lv_iload_n hx hb dX7_larger_24 rfl (lv_at hl 3 rfl) ?_
  refine lv_lload_n hx hb dX7_larger_25 rfl (lv_at hl 4 rfl) ?_
  refine vp_callSi (va_Run.run (va_runV (As := [.int (nI k), .long x1]) (rest := []) ⟨hx, hb, hml, hown, hts⟩ (c_X7_power l o r k h_k x1 hz1) (cwV 2 hts (gV iX7_power (zin__r12 (.methodLink RX7 122 yX7_power) (List.mem_of_getElem? (i := 23) rfl))) rfl rfl rfl (by decide +kernel) ⟨Nat.le_of_ble_eq_true rfl, Nat.le_of_ble_eq_true rfl⟩) ⟨fun a U g mk q => ⟨q.1, mU_bl q.2⟩, (mU_rv hm), fun U hU hW => ⟨rfl, mU_mv hm hU hW⟩⟩ rfl rfl hl.1 rfl (lv_room (Nat.le_of_ble_eq_true rfl)) dX7_larger_26 ⟨Nat.zero_le _, Nat.zero_le _⟩)) (fun r_26 hr_26 => ?_)
  subst hr_26
  refine lv_aload_n hx hb dX7_larger_29 rfl (lv_at hl 2 rfl) ?_
  refine lv_iload_n hx hb dX7_larger_30 rfl (lv_at hl 3 rfl) ?_
  refine lv_lload hx hb dX7_larger_31 (lv_at hl 5 rfl) ?_
  refine vp_callSi (va_Run.run (va_runV (As := [.int (nI k), .long x2]) (rest := [.int (f_X7_power k x1)]) ⟨hx, hb, hml, hown, hts⟩ (c_X7_power l o r k h_k x2 hz2) (cwV 2 hts (gV iX7_power (zin__r12 (.methodLink RX7 122 yX7_power) (List.mem_of_getElem? (i := 23) rfl))) rfl rfl rfl (by decide +kernel) ⟨Nat.le_of_ble_eq_true rfl, Nat.le_of_ble_eq_true rfl⟩) ⟨fun a U g mk q => ⟨q.1, mU_bl q.2⟩, (mU_rv hm), fun U hU hW => ⟨rfl, mU_mv hm hU hW⟩⟩ rfl rfl hl.1 rfl (lv_room (Nat.le_of_ble_eq_true rfl)) dX7_larger_33 ⟨Nat.zero_le _, Nat.zero_le _⟩)) (fun r_33 hr_33 => ?_)
  subst hr_33
  refine lv_isub hx hb dX7_larger_36 ?_
  refine lv_topi (fun v10_3 e_v10_3 => ?_)
  have hf : f_X7_larger k x1 x2 = (f_X7_larger_8 k x1 x2 v6_1 v8_2 v10_3) := hf.trans (congrArg (fun z => (f_X7_larger_8 k x1 x2 v6_1 v8_2 z)) e_v10_3.symm)
  refine lv_istore (lv' := [(10, .int v10_3), (8, .long v8_2), (6, .long v6_1), (0, .ref o), (1, .int (nI k)), (2, .long x1), (4, .long x2)]) hx hb dX7_larger_37 hl (by decide) rfl (fun ls hl => ?_)
  refine lv_iload hx hb dX7_larger_39 (lv_at hl 0 rfl) ?_
  refine lv_bipush (v := 62) hx hb dX7_larger_41 (by decide) ?_
  refine W_cut (α := Int64) (pcJ := 55) (nL := 16) (fun v => f_X7_larger k x1 x2 = (f_X7_larger_7 k x1 x2 v6_1 v8_2 v10_3 v)) (fun v => [.long v]) (fun v => [(0, .ref o), (1, .int (nI k)), (2, .long x1), (4, .long x2), (6, .long v6_1), (8, .long v8_2), (10, .int v10_3)]) (fun w_4 ls hf hl => ?_) (fun K_55 => ?_)
  · have hf : f_X7_larger k x1 x2 = (f_X7_larger_7 k x1 x2 v6_1 v8_2 v10_3 w_4) := hf
    have hl : lv_has ls 16 [(0, .ref o), (1, .int (nI k)), (2, .long x1), (4, .long x2), (6, .long v6_1), (8, .long v8_2), (10, .int v10_3)] := hl
    refine lv_lstore (lv' := [(11, .long w_4), (0, .ref o), (1, .int (nI k)), (2, .long x1), (4, .long x2), (6, .long v6_1), (8, .long v8_2), (10, .int v10_3)]) hx hb dX7_larger_55 hl (by decide) rfl (fun ls hl => ?_)
    refine lv_iload hx hb dX7_larger_57 (lv_at hl 7 rfl) ?_
    refine lv_bipush (v := 62) hx hb dX7_larger_59 (by decide) ?_
    refine W_cut (α := Int32) (pcJ := 80) (nL := 16) (fun v => f_X7_larger k x1 x2 = (f_X7_larger_4 k x1 x2 v6_1 w_4 v)) (fun v => [.int v]) (fun v => [(0, .ref o), (1, .int (nI k)), (2, .long x1), (4, .long x2), (6, .long v6_1), (11, .long w_4)]) (fun w_5 ls hf hl => ?_) (fun K_80 => ?_)
    · have hf : f_X7_larger k x1 x2 = (f_X7_larger_4 k x1 x2 v6_1 w_4 w_5) := hf
      have hl : lv_has ls 16 [(0, .ref o), (1, .int (nI k)), (2, .long x1), (4, .long x2), (6, .long v6_1), (11, .long w_4)] := hl
      refine lv_istore (lv' := [(13, .int w_5), (0, .ref o), (1, .int (nI k)), (2, .long x1), (4, .long x2), (6, .long v6_1), (11, .long w_4)]) hx hb dX7_larger_80 hl (by decide) rfl (fun ls hl => ?_)
      refine lv_aload_n hx hb dX7_larger_82 rfl (lv_at hl 1 rfl) ?_
      refine lv_iload_n hx hb dX7_larger_83 rfl (lv_at hl 2 rfl) ?_
      refine lv_lload_n hx hb dX7_larger_84 rfl (lv_at hl 3 rfl) ?_
      refine vp_callSi (va_Run.run (va_runV (As := [.int (nI k), .long x1]) (rest := []) ⟨hx, hb, hml, hown, hts⟩ (c_X7_minus l o r k h_k x1) (cwV 2 hts (gV iX7_minus (zin__r8 (.methodLink RX7 108 yX7_minus) (List.mem_of_getElem? (i := 5) rfl))) rfl rfl rfl (by decide +kernel) ⟨Nat.le_of_ble_eq_true rfl, Nat.le_of_ble_eq_true rfl⟩) ⟨fun a U g mk q => ⟨q.1, mU_bl q.2⟩, (mU_rv hm), fun U hU hW => ⟨rfl, mU_mv hm hU hW⟩⟩ rfl rfl hl.1 rfl (lv_room (Nat.le_of_ble_eq_true rfl)) dX7_larger_85 ⟨Nat.zero_le _, Nat.zero_le _⟩)) (fun r_85 hr_85 => ?_)
      subst hr_85
      refine lv_aload_n hx hb dX7_larger_88 rfl (lv_at hl 1 rfl) ?_
      refine lv_iload_n hx hb dX7_larger_89 rfl (lv_at hl 2 rfl) ?_
      refine lv_lload hx hb dX7_larger_90 (lv_at hl 4 rfl) ?_
      refine vp_callSi (va_Run.run (va_runV (As := [.int (nI k), .long x2]) (rest := [.int (f_X7_minus k x1)]) ⟨hx, hb, hml, hown, hts⟩ (c_X7_minus l o r k h_k x2) (cwV 2 hts (gV iX7_minus (zin__r8 (.methodLink RX7 108 yX7_minus) (List.mem_of_getElem? (i := 5) rfl))) rfl rfl rfl (by decide +kernel) ⟨Nat.le_of_ble_eq_true rfl, Nat.le_of_ble_eq_true rfl⟩) ⟨fun a U g mk q => ⟨q.1, mU_bl q.2⟩, (mU_rv hm), fun U hU hW => ⟨rfl, mU_mv hm hU hW⟩⟩ rfl rfl hl.1 rfl (lv_room (Nat.le_of_ble_eq_true rfl)) dX7_larger_92 ⟨Nat.zero_le _, Nat.zero_le _⟩)) (fun r_92 hr_92 => ?_)
      subst hr_92
      refine W_cut (α := Int64) (pcJ := 123) (nL := 16) (fun v => f_X7_larger k x1 x2 = (f_X7_larger_1 k x1 w_5 v)) (fun v => [.long v]) (fun v => [(0, .ref o), (1, .int (nI k)), (2, .long x1), (13, .int w_5)]) (fun w_6 ls hf hl => ?_) (fun K_123 => ?_)
      · have hf : f_X7_larger k x1 x2 = (f_X7_larger_1 k x1 w_5 w_6) := hf
        have hl : lv_has ls 16 [(0, .ref o), (1, .int (nI k)), (2, .long x1), (13, .int w_5)] := hl
        refine lv_lstore (lv' := [(14, .long w_6), (0, .ref o), (1, .int (nI k)), (2, .long x1), (13, .int w_5)]) hx hb dX7_larger_123 hl (by decide) rfl (fun ls hl => ?_)
        refine lv_lload hx hb dX7_larger_125 (lv_at hl 0 rfl) ?_
        refine lv_lconst (v := 0) hx hb dX7_larger_127 (by decide) ?_
        refine W.lcmp hx hb dX7_larger_128 ?_
        refine lv_if_ne (tgt := 136) hx hb dX7_larger_129 (by decide) (fun c_129 => ?_) (fun c_129 => ?_)
        · have c_129 : ¬ (w_6 = (0 : Int64)) := fun h9 => c_129 ((lg_cmp_eq w_6 (0 : Int64)).mpr h9)
          have hf : f_X7_larger k x1 x2 = (f_X7_round k (f_X7_minus k x1) w_6 ((f_X7_power k x1) - (9 : Int32)) w_5) := hf.trans (if_neg c_129)
          refine lv_aload_n hx hb dX7_larger_136 rfl (lv_at hl 1 rfl) ?_
          refine lv_iload_n hx hb dX7_larger_137 rfl (lv_at hl 2 rfl) ?_
          refine lv_aload_n hx hb dX7_larger_138 rfl (lv_at hl 1 rfl) ?_
          refine lv_iload_n hx hb dX7_larger_139 rfl (lv_at hl 2 rfl) ?_
          refine lv_lload_n hx hb dX7_larger_140 rfl (lv_at hl 3 rfl) ?_
          refine vp_callSi (va_Run.run (va_runV (As := [.int (nI k), .long x1]) (rest := [.int (nI k), .ref o]) ⟨hx, hb, hml, hown, hts⟩ (c_X7_minus l o r k h_k x1) (cwV 2 hts (gV iX7_minus (zin__r8 (.methodLink RX7 108 yX7_minus) (List.mem_of_getElem? (i := 5) rfl))) rfl rfl rfl (by decide +kernel) ⟨Nat.le_of_ble_eq_true rfl, Nat.le_of_ble_eq_true rfl⟩) ⟨fun a U g mk q => ⟨q.1, mU_bl q.2⟩, (mU_rv hm), fun U hU hW => ⟨rfl, mU_mv hm hU hW⟩⟩ rfl rfl hl.1 rfl (lv_room (Nat.le_of_ble_eq_true rfl)) dX7_larger_141 ⟨Nat.zero_le _, Nat.zero_le _⟩)) (fun r_141 hr_141 => ?_)
          subst hr_141
          refine lv_lload hx hb dX7_larger_144 (lv_at hl 0 rfl) ?_
          refine lv_aload_n hx hb dX7_larger_146 rfl (lv_at hl 1 rfl) ?_
          refine lv_iload_n hx hb dX7_larger_147 rfl (lv_at hl 2 rfl) ?_
          refine lv_lload_n hx hb dX7_larger_148 rfl (lv_at hl 3 rfl) ?_
          refine vp_callSi (va_Run.run (va_runV (As := [.int (nI k), .long x1]) (rest := [.long w_6, .int (f_X7_minus k x1), .int (nI k), .ref o]) ⟨hx, hb, hml, hown, hts⟩ (c_X7_power l o r k h_k x1 hz1) (cwV 2 hts (gV iX7_power (zin__r12 (.methodLink RX7 122 yX7_power) (List.mem_of_getElem? (i := 23) rfl))) rfl rfl rfl (by decide +kernel) ⟨Nat.le_of_ble_eq_true rfl, Nat.le_of_ble_eq_true rfl⟩) ⟨fun a U g mk q => ⟨q.1, mU_bl q.2⟩, (mU_rv hm), fun U hU hW => ⟨rfl, mU_mv hm hU hW⟩⟩ rfl rfl hl.1 rfl (lv_room (Nat.le_of_ble_eq_true rfl)) dX7_larger_149 ⟨Nat.zero_le _, Nat.zero_le _⟩)) (fun r_149 hr_149 => ?_)
          subst hr_149
          refine lv_bipush (v := 9) hx hb dX7_larger_152 (by decide) ?_
          refine lv_isub hx hb dX7_larger_154 ?_
          refine lv_iload hx hb dX7_larger_155 (lv_at hl 4 rfl) ?_
          refine vp_callSl (va_Run.run (va_runV (As := [.int (nI k), .int (f_X7_minus k x1), .long w_6, .int ((f_X7_power k x1) - (9 : Int32)), .int w_5]) (rest := []) ⟨hx, hb, hml, hown, hts⟩ (c_X7_round l o r k h_k (f_X7_minus k x1) w_6 ((f_X7_power k x1) - (9 : Int32)) w_5) (cwV 5 hts (gV iX7_round (zin__r10 (.methodLink RX7 125 yX7_round) (List.mem_of_getElem? (i := 1) rfl))) rfl rfl rfl (by decide +kernel) ⟨Nat.le_of_ble_eq_true rfl, Nat.le_of_ble_eq_true rfl⟩) ⟨fun a U g mk q => ⟨q.1, mU_bl q.2⟩, (mU_rv hm), fun U hU hW => ⟨rfl, mU_mv hm hU hW⟩⟩ rfl rfl hl.1 rfl (lv_room (Nat.le_of_ble_eq_true rfl)) dX7_larger_157 ⟨Nat.zero_le _, Nat.zero_le _⟩)) (fun r_157 hr_157 => ?_)
          subst hr_157
          exact W.lret hx hb hr (fun t ht hW => ⟨_, rfl, hf.symm, ht⟩) (fun q hq => absurd hq List.not_mem_nil) dX7_larger_160
        · have c_129 : w_6 = (0 : Int64) := (lg_cmp_eq w_6 (0 : Int64)).mp c_129
          have hf : f_X7_larger k x1 x2 = (0 : Int64) := hf.trans (if_pos c_129)
          refine lv_lconst (v := 0) hx hb dX7_larger_132 (by decide) ?_
          refine lv_goto (tgt := 160) hx hb dX7_larger_133 (by decide) ?_
          exact W.lret hx hb hr (fun t ht hW => ⟨_, rfl, hf.symm, ht⟩) (fun q hq => absurd hq List.not_mem_nil) dX7_larger_160
      refine lv_icmp_ne (tgt := 106) hx hb dX7_larger_95 (by decide) (fun c_95 => ?_) (fun c_95 => ?_)
      · have hf : f_X7_larger k x1 x2 = (f_X7_larger_3 k x1 v6_1 w_4 w_5) := hf.trans (if_neg c_95)
        refine lv_lload hx hb dX7_larger_106 (lv_at hl 5 rfl) ?_
        refine lv_lload hx hb dX7_larger_108 (lv_at hl 6 rfl) ?_
        refine lv_lsub hx hb dX7_larger_110 ?_
        refine lv_iload hx hb dX7_larger_111 (lv_at hl 0 rfl) ?_
        refine W_cut (α := Int32) (pcJ := 121) (nL := 16) (fun v => f_X7_larger k x1 x2 = (f_X7_larger_2 k x1 v6_1 w_4 w_5 v)) (fun v => [.int v, .long (v6_1 - w_4)]) (fun v => [(0, .ref o), (1, .int (nI k)), (2, .long x1), (13, .int w_5)]) (fun w_7 ls hf hl => ?_) (fun K_121 => ?_)
        · have hf : f_X7_larger k x1 x2 = (f_X7_larger_1 k x1 w_5 ((v6_1 - w_4) - ((w_7).toInt64))) := hf
          have hl : lv_has ls 16 [(0, .ref o), (1, .int (nI k)), (2, .long x1), (13, .int w_5)] := hl
          refine lv_i2l (v := ((w_7).toInt64)) hx hb dX7_larger_121 rfl ?_
          refine lv_lsub hx hb dX7_larger_122 ?_
          exact K_123 ((v6_1 - w_4) - ((w_7).toInt64)) ls hf (lv_sub hl [0, 1, 2, 3] rfl)
        refine lv_if_eq (tgt := 120) hx hb dX7_larger_113 (by decide) (fun c_113 => ?_) (fun c_113 => ?_)
        · have hf : f_X7_larger k x1 x2 = (f_X7_larger_2 k x1 v6_1 w_4 w_5 (0 : Int32)) := hf.trans (if_pos c_113)
          refine lv_iconst (v := 0) hx hb dX7_larger_120 (by decide) ?_
          exact K_121 (0 : Int32) ls hf (lv_sub hl [1, 2, 3, 0] rfl)
        · have hf : f_X7_larger k x1 x2 = (f_X7_larger_2 k x1 v6_1 w_4 w_5 (1 : Int32)) := hf.trans (if_neg c_113)
          refine lv_iconst (v := 1) hx hb dX7_larger_116 (by decide) ?_
          refine lv_goto (tgt := 121) hx hb dX7_larger_117 (by decide) ?_
          exact K_121 (1 : Int32) ls hf (lv_sub hl [1, 2, 3, 0] rfl)
      · have hf : f_X7_larger k x1 x2 = (f_X7_larger_1 k x1 w_5 (v6_1 + w_4)) := hf.trans (if_pos c_95)
        refine lv_lload hx hb dX7_larger_98 (lv_at hl 5 rfl) ?_
        refine lv_lload hx hb dX7_larger_100 (lv_at hl 6 rfl) ?_
        refine lv_ladd hx hb dX7_larger_102 ?_
        refine lv_goto (tgt := 123) hx hb dX7_larger_103 (by decide) ?_
        exact K_123 (v6_1 + w_4) ls hf (lv_sub hl [1, 2, 3, 0] rfl)
    refine W_cut (α := Unit) (pcJ := 75) (nL := 16) (fun v => f_X7_larger k x1 x2 = (f_X7_larger_5 k x1 x2 v6_1 w_4)) (fun v => []) (fun v => [(0, .ref o), (1, .int (nI k)), (2, .long x1), (4, .long x2), (6, .long v6_1), (11, .long w_4)]) (fun v ls hf hl => ?_) (fun K_75 => ?_)
    · have hf : f_X7_larger k x1 x2 = (f_X7_larger_4 k x1 x2 v6_1 w_4 (1 : Int32)) := hf
      have hl : lv_has ls 16 [(0, .ref o), (1, .int (nI k)), (2, .long x1), (4, .long x2), (6, .long v6_1), (11, .long w_4)] := hl
      refine lv_iconst (v := 1) hx hb dX7_larger_75 (by decide) ?_
      refine lv_goto (tgt := 80) hx hb dX7_larger_76 (by decide) ?_
      exact K_80 (1 : Int32) ls hf (lv_sub hl [0, 1, 2, 3, 4, 5] rfl)
    refine lv_icmp_gt (tgt := 75) hx hb dX7_larger_61 (by decide) (fun c_61 => ?_) (fun c_61 => ?_)
    · have hf : f_X7_larger k x1 x2 = (f_X7_larger_5 k x1 x2 v6_1 w_4) := hf.trans (if_pos c_61)
      exact K_75 () ls hf (lv_sub hl [1, 2, 3, 4, 5, 0] rfl)
    · have hf : f_X7_larger k x1 x2 = (f_X7_larger_6 k x1 x2 v6_1 v8_2 v10_3 w_4) := hf.trans (if_neg c_61)
      refine lv_lload hx hb dX7_larger_64 (lv_at hl 0 rfl) ?_
      refine lv_iload hx hb dX7_larger_66 (lv_at hl 7 rfl) ?_
      refine lv_lshl (v := (jlshl w_4 v10_3)) hx hb dX7_larger_68 rfl ?_
      refine lv_lload hx hb dX7_larger_69 (lv_at hl 6 rfl) ?_
      refine W.lcmp hx hb dX7_larger_71 ?_
      refine lv_if_eq (tgt := 79) hx hb dX7_larger_72 (by decide) (fun c_72 => ?_) (fun c_72 => ?_)
      · have c_72 : (jlshl w_4 v10_3) = v8_2 := (lg_cmp_eq (jlshl w_4 v10_3) v8_2).mp c_72
        have hf : f_X7_larger k x1 x2 = (f_X7_larger_4 k x1 x2 v6_1 w_4 (0 : Int32)) := hf.trans (if_pos c_72)
        refine lv_iconst (v := 0) hx hb dX7_larger_79 (by decide) ?_
        exact K_80 (0 : Int32) ls hf (lv_sub hl [1, 2, 3, 4, 5, 0] rfl)
      · have c_72 : ¬ ((jlshl w_4 v10_3) = v8_2) := fun h9 => c_72 ((lg_cmp_eq (jlshl w_4 v10_3) v8_2).mpr h9)
        have hf : f_X7_larger k x1 x2 = (f_X7_larger_5 k x1 x2 v6_1 w_4) := hf.trans (if_neg c_72)
        exact K_75 () ls hf (lv_sub hl [1, 2, 3, 4, 5, 0] rfl)
  refine lv_icmp_le (tgt := 50) hx hb dX7_larger_43 (by decide) (fun c_43 => ?_) (fun c_43 => ?_)
  · have hf : f_X7_larger k x1 x2 = (f_X7_larger_7 k x1 x2 v6_1 v8_2 v10_3 (jlshr v8_2 v10_3)) := hf.trans (if_pos c_43)
    refine lv_lload hx hb dX7_larger_50 (lv_at hl 1 rfl) ?_
    refine lv_iload hx hb dX7_larger_52 (lv_at hl 0 rfl) ?_
    refine lv_lshr (v := (jlshr v8_2 v10_3)) hx hb dX7_larger_54 rfl ?_
    exact K_55 (jlshr v8_2 v10_3) ls hf (lv_sub hl [3, 4, 5, 6, 2, 1, 0] rfl)
  · have hf : f_X7_larger k x1 x2 = (f_X7_larger_7 k x1 x2 v6_1 v8_2 v10_3 (0 : Int64)) := hf.trans (if_neg c_43)
    refine lv_lconst (v := 0) hx hb dX7_larger_46 (by decide) ?_
    refine lv_goto (tgt := 55) hx hb dX7_larger_47 (by decide) ?_
    exact K_55 (0 : Int64) ls hf (lv_sub hl [3, 4, 5, 6, 2, 1, 0] rfl)
def f_X7_plus_1 (k : Nat) : Int64 := (knan k)
def f_X7_plus_2 (k : Nat) (x1 : Int64) (x2 : Int64) : Int64 := if (f_X7_unsigned k x1) < (f_X7_unsigned k x2) then (f_X7_larger k x2 x1) else (f_X7_larger k x1 x2)
def f_X7_plus_3 (k : Nat) (x1 : Int64) (x2 : Int64) : Int64 := if (f_X7_zero k x1) = 0 then (f_X7_plus_2 k x1 x2) else x2
def f_X7_plus_4 (k : Nat) (x1 : Int64) (x2 : Int64) : Int64 := if (f_X7_zero k x1) = 0 then x1 else (x1 &&& x2)
def f_X7_plus_5 (k : Nat) (x1 : Int64) (x2 : Int64) : Int64 := if (f_X7_zero k x2) = 0 then (f_X7_plus_3 k x1 x2) else (f_X7_plus_4 k x1 x2)
def f_X7_plus_6 (k : Nat) (x1 : Int64) (x2 : Int64) : Int64 := if (f_X7_infinite k x2) = 0 then (f_X7_plus_5 k x1 x2) else x2
def f_X7_plus_7 (k : Nat) (x1 : Int64) (x2 : Int64) : Int64 := if x1 = x2 then x1 else (knan k)
def f_X7_plus_8 (k : Nat) (x1 : Int64) (x2 : Int64) : Int64 := if (f_X7_infinite k x2) = 0 then x1 else (f_X7_plus_7 k x1 x2)
def f_X7_plus_9 (k : Nat) (x1 : Int64) (x2 : Int64) : Int64 := if (f_X7_infinite k x1) = 0 then (f_X7_plus_6 k x1 x2) else (f_X7_plus_8 k x1 x2)
def f_X7_plus_10 (k : Nat) (x1 : Int64) (x2 : Int64) : Int64 := if (f_X7_none k x2) = 0 then (f_X7_plus_9 k x1 x2) else (f_X7_plus_1 k)
def f_X7_plus_11 (k : Nat) (x1 : Int64) (x2 : Int64) : Int64 := if (f_X7_none k x1) = 0 then (f_X7_plus_10 k x1 x2) else (f_X7_plus_1 k)
def f_X7_plus (k : Nat) (x1 : Int64) (x2 : Int64) : Int64 := (f_X7_plus_11 k x1 x2)
def zX7_plus : List Cond := .code yX7_plus cX7_plus 6 (some .long) :: zall
theorem iX7_plus : MWv RX7 yX7_plus (.code yX7_plus cX7_plus 6 (some .long)) := ⟨(zin__r21 (.instanceMethod yX7_plus) (List.mem_of_getElem? (i := 3) rfl)), (zin__r21 (.selects RX7 yX7_plus yX7_plus) (List.mem_of_getElem? (i := 4) rfl)), (zin__r1 (.initialized RX7) (List.mem_of_getElem? (i := 5) rfl)), (zin__r21 (.code yX7_plus cX7_plus 6 (some .long)) (List.mem_of_getElem? (i := 5) rfl))⟩
set_option maxHeartbeats 4000000 in
set_option maxRecDepth 100000 in
theorem c_X7_plus (l : Launch) (o : Nat) (r : Nat → Nat) (k : Nat) (h_k : k < 2) (x1 : Int64) (x2 : Int64) (hc1 : kcn k x1) (hc2 : kcn k x2) : Met l yX7_plus zX7_plus ({ frames := 3, cells := 0, slots := 0, locals := 94 }) (va_Pc [.ref o, .int (nI k), .long x1, .long x2] (fun U => mU o r U)) (vp_Sl (fun r => r = f_X7_plus k x1 x2)) 0 0 (fun _ => False) := by
  refine Met.ofW (cc := cX7_plus) (maxL := 6) (ret := (some .long)) (by decide) rfl ?_
  intro p e s m args below meth c s₁ B hml hv
  obtain ⟨rfl, hm⟩ := hv
  have hx := B.exec
  have hb := B.bytes
  have hr := B.returns
  have hts : ∀ w ∈ zall, w.before _ s = true := fun w h => atoms_spec (ws := zX7_plus) B.pre w (List.mem_cons_of_mem _ h)
  have hown : s.vm.findClass RX7 = some m.cls := findClass_of_methodNamed B.named
  have hlocks := B.notSynchronized
  have hl := lv_entry ([.ref o, .int (nI k), .long x1, .long x2]) (n := 6) (Nat.le_of_ble_eq_true rfl)
  rw [lg_entry_eq]
  generalize (lg_sl ([.ref o, .int (nI k), .long x1, .long x2]) ++ List.replicate (6 - (lg_sl ([.ref o, .int (nI k), .long x1, .long x2])).length) Slot.unset).toArray = ls at hl ⊢
  have hl : lv_has ls 6 [(0, .ref o), (1, .int (nI k)), (2, .long x1), (4, .long x2)] := hl
  have hf : f_X7_plus k x1 x2 = (f_X7_plus_11 k x1 x2) := rfl
  refine lv_aload_n hx hb dX7_plus_0 rfl (lv_at hl 0 rfl) ?_
  refine lv_iload_n hx hb dX7_plus_1 rfl (lv_at hl 1 rfl) ?_
  refine lv_lload_n hx hb dX7_plus_2 rfl (lv_at hl 2 rfl) ?_
  refine vp_callSi (va_Run.run (va_runV (As := [.int (nI k), .long x1]) (rest := []) ⟨hx, hb, hml, hown, hts⟩ (c_X7_none l o r k h_k x1) (cwV 2 hts (gV iX7_none (zin__r7 (.methodLink RX7 98 yX7_none) (List.mem_of_getElem? (i := 17) rfl))) rfl rfl rfl (by decide +kernel) ⟨Nat.le_of_ble_eq_true rfl, Nat.le_of_ble_eq_true rfl⟩) ⟨fun a U g mk q => ⟨q.1, mU_bl q.2⟩, (mU_rv hm), fun U hU hW => ⟨rfl, mU_mv hm hU hW⟩⟩ rfl rfl hl.1 rfl (lv_room (Nat.le_of_ble_eq_true rfl)) dX7_plus_3 ⟨Nat.zero_le _, Nat.zero_le _⟩)) (fun r_3 hr_3 => ?_)
  subst hr_3
  refine W_cut (α := Unit) (pcJ := 19) (nL := 6) (fun v => f_X7_plus k x1 x2 = (f_X7_plus_1 k)) (fun v => []) (fun v => [(0, .ref o), (1, .int (nI k))]) (fun v ls hf hl => ?_) (fun K_19 => ?_)
  · have hf : f_X7_plus k x1 x2 = (knan k) := hf
    have hl : lv_has ls 6 [(0, .ref o), (1, .int (nI k))] := hl
    refine lv_aload_n hx hb dX7_plus_19 rfl (lv_at hl 0 rfl) ?_
    refine vk_getf hx hb (mE_NONE hm) va_S.rf hown (hts _ (zin__r2 (.fieldLink RX7 38 "ReckonBenchModel" "NONE" "[J") (List.mem_of_getElem? (i := 21) rfl))) (fun _ h9 => h9) dX7_plus_20 ?_
    refine lv_iload_n hx hb dX7_plus_23 rfl (lv_at hl 1 rfl) ?_
    refine va_tl hx hb (mT_NONE hm) va_S.rf (kin h_k) (v := .long (knan k)) (kev (fun j => Value.long (knan j)) h_k) dX7_plus_24 ?_
    exact W.lret hx hb hr (fun t ht hW => ⟨_, rfl, hf.symm, ht⟩) (fun q hq => absurd hq List.not_mem_nil) dX7_plus_25
  refine lv_if_ne (tgt := 19) hx hb dX7_plus_6 (by decide) (fun c_6 => ?_) (fun c_6 => ?_)
  · have hf : f_X7_plus k x1 x2 = (f_X7_plus_1 k) := hf.trans (if_neg c_6)
    exact K_19 () ls hf (lv_sub hl [0, 1] rfl)
  · have hf : f_X7_plus k x1 x2 = (f_X7_plus_10 k x1 x2) := hf.trans (if_pos c_6)
    refine lv_aload_n hx hb dX7_plus_9 rfl (lv_at hl 0 rfl) ?_
    refine lv_iload_n hx hb dX7_plus_10 rfl (lv_at hl 1 rfl) ?_
    refine lv_lload hx hb dX7_plus_11 (lv_at hl 3 rfl) ?_
    refine vp_callSi (va_Run.run (va_runV (As := [.int (nI k), .long x2]) (rest := []) ⟨hx, hb, hml, hown, hts⟩ (c_X7_none l o r k h_k x2) (cwV 2 hts (gV iX7_none (zin__r7 (.methodLink RX7 98 yX7_none) (List.mem_of_getElem? (i := 17) rfl))) rfl rfl rfl (by decide +kernel) ⟨Nat.le_of_ble_eq_true rfl, Nat.le_of_ble_eq_true rfl⟩) ⟨fun a U g mk q => ⟨q.1, mU_bl q.2⟩, (mU_rv hm), fun U hU hW => ⟨rfl, mU_mv hm hU hW⟩⟩ rfl rfl hl.1 rfl (lv_room (Nat.le_of_ble_eq_true rfl)) dX7_plus_13 ⟨Nat.zero_le _, Nat.zero_le _⟩)) (fun r_13 hr_13 => ?_)
    subst hr_13
    refine lv_if_eq (tgt := 26) hx hb dX7_plus_16 (by decide) (fun c_16 => ?_) (fun c_16 => ?_)
    · have hf : f_X7_plus k x1 x2 = (f_X7_plus_9 k x1 x2) := hf.trans (if_pos c_16)
      refine lv_aload_n hx hb dX7_plus_26 rfl (lv_at hl 0 rfl) ?_
      refine lv_iload_n hx hb dX7_plus_27 rfl (lv_at hl 1 rfl) ?_
      refine lv_lload_n hx hb dX7_plus_28 rfl (lv_at hl 2 rfl) ?_
      refine vp_callSi (va_Run.run (va_runV (As := [.int (nI k), .long x1]) (rest := []) ⟨hx, hb, hml, hown, hts⟩ (c_X7_infinite l o r k h_k x1) (cwV 2 hts (gV iX7_infinite (zin__r8 (.methodLink RX7 105 yX7_infinite) (List.mem_of_getElem? (i := 1) rfl))) rfl rfl rfl (by decide +kernel) ⟨Nat.le_of_ble_eq_true rfl, Nat.le_of_ble_eq_true rfl⟩) ⟨fun a U g mk q => ⟨q.1, mU_bl q.2⟩, (mU_rv hm), fun U hU hW => ⟨rfl, mU_mv hm hU hW⟩⟩ rfl rfl hl.1 rfl (lv_room (Nat.le_of_ble_eq_true rfl)) dX7_plus_29 ⟨Nat.zero_le _, Nat.zero_le _⟩)) (fun r_29 hr_29 => ?_)
      subst hr_29
      refine lv_if_eq (tgt := 63) hx hb dX7_plus_32 (by decide) (fun c_32 => ?_) (fun c_32 => ?_)
      · have hf : f_X7_plus k x1 x2 = (f_X7_plus_6 k x1 x2) := hf.trans (if_pos c_32)
        refine lv_aload_n hx hb dX7_plus_63 rfl (lv_at hl 0 rfl) ?_
        refine lv_iload_n hx hb dX7_plus_64 rfl (lv_at hl 1 rfl) ?_
        refine lv_lload hx hb dX7_plus_65 (lv_at hl 3 rfl) ?_
        refine vp_callSi (va_Run.run (va_runV (As := [.int (nI k), .long x2]) (rest := []) ⟨hx, hb, hml, hown, hts⟩ (c_X7_infinite l o r k h_k x2) (cwV 2 hts (gV iX7_infinite (zin__r8 (.methodLink RX7 105 yX7_infinite) (List.mem_of_getElem? (i := 1) rfl))) rfl rfl rfl (by decide +kernel) ⟨Nat.le_of_ble_eq_true rfl, Nat.le_of_ble_eq_true rfl⟩) ⟨fun a U g mk q => ⟨q.1, mU_bl q.2⟩, (mU_rv hm), fun U hU hW => ⟨rfl, mU_mv hm hU hW⟩⟩ rfl rfl hl.1 rfl (lv_room (Nat.le_of_ble_eq_true rfl)) dX7_plus_67 ⟨Nat.zero_le _, Nat.zero_le _⟩)) (fun r_67 hr_67 => ?_)
        subst hr_67
        refine lv_if_eq (tgt := 76) hx hb dX7_plus_70 (by decide) (fun c_70 => ?_) (fun c_70 => ?_)
        · have hf : f_X7_plus k x1 x2 = (f_X7_plus_5 k x1 x2) := hf.trans (if_pos c_70)
          refine lv_aload_n hx hb dX7_plus_76 rfl (lv_at hl 0 rfl) ?_
          refine lv_iload_n hx hb dX7_plus_77 rfl (lv_at hl 1 rfl) ?_
          refine lv_lload hx hb dX7_plus_78 (lv_at hl 3 rfl) ?_
          refine vp_callSi (va_Run.run (va_runV (As := [.int (nI k), .long x2]) (rest := []) ⟨hx, hb, hml, hown, hts⟩ (c_X7_zero l o r k h_k x2) (cwV 2 hts (gV iX7_zero (zin__r7 (.methodLink RX7 102 yX7_zero) (List.mem_of_getElem? (i := 21) rfl))) rfl rfl rfl (by decide +kernel) ⟨Nat.le_of_ble_eq_true rfl, Nat.le_of_ble_eq_true rfl⟩) ⟨fun a U g mk q => ⟨q.1, mU_bl q.2⟩, (mU_rv hm), fun U hU hW => ⟨rfl, mU_mv hm hU hW⟩⟩ rfl rfl hl.1 rfl (lv_room (Nat.le_of_ble_eq_true rfl)) dX7_plus_80 ⟨Nat.zero_le _, Nat.zero_le _⟩)) (fun r_80 hr_80 => ?_)
          subst hr_80
          refine lv_if_eq (tgt := 104) hx hb dX7_plus_83 (by decide) (fun c_83 => ?_) (fun c_83 => ?_)
          · have hf : f_X7_plus k x1 x2 = (f_X7_plus_3 k x1 x2) := hf.trans (if_pos c_83)
            refine lv_aload_n hx hb dX7_plus_104 rfl (lv_at hl 0 rfl) ?_
            refine lv_iload_n hx hb dX7_plus_105 rfl (lv_at hl 1 rfl) ?_
            refine lv_lload_n hx hb dX7_plus_106 rfl (lv_at hl 2 rfl) ?_
            refine vp_callSi (va_Run.run (va_runV (As := [.int (nI k), .long x1]) (rest := []) ⟨hx, hb, hml, hown, hts⟩ (c_X7_zero l o r k h_k x1) (cwV 2 hts (gV iX7_zero (zin__r7 (.methodLink RX7 102 yX7_zero) (List.mem_of_getElem? (i := 21) rfl))) rfl rfl rfl (by decide +kernel) ⟨Nat.le_of_ble_eq_true rfl, Nat.le_of_ble_eq_true rfl⟩) ⟨fun a U g mk q => ⟨q.1, mU_bl q.2⟩, (mU_rv hm), fun U hU hW => ⟨rfl, mU_mv hm hU hW⟩⟩ rfl rfl hl.1 rfl (lv_room (Nat.le_of_ble_eq_true rfl)) dX7_plus_107 ⟨Nat.zero_le _, Nat.zero_le _⟩)) (fun r_107 hr_107 => ?_)
            subst hr_107
            refine lv_if_eq (tgt := 116) hx hb dX7_plus_110 (by decide) (fun c_110 => ?_) (fun c_110 => ?_)
            · have hf : f_X7_plus k x1 x2 = (f_X7_plus_2 k x1 x2) := hf.trans (if_pos c_110)
              refine lv_aload_n hx hb dX7_plus_116 rfl (lv_at hl 0 rfl) ?_
              refine lv_iload_n hx hb dX7_plus_117 rfl (lv_at hl 1 rfl) ?_
              refine lv_lload_n hx hb dX7_plus_118 rfl (lv_at hl 2 rfl) ?_
              refine vp_callSl (va_Run.run (va_runV (As := [.int (nI k), .long x1]) (rest := []) ⟨hx, hb, hml, hown, hts⟩ (c_X7_unsigned l o r k h_k x1) (cwV 2 hts (gV iX7_unsigned (zin__r7 (.methodLink RX7 94 yX7_unsigned) (List.mem_of_getElem? (i := 4) rfl))) rfl rfl rfl (by decide +kernel) ⟨Nat.le_of_ble_eq_true rfl, Nat.le_of_ble_eq_true rfl⟩) ⟨fun a U g mk q => ⟨q.1, mU_bl q.2⟩, (mU_rv hm), fun U hU hW => ⟨rfl, mU_mv hm hU hW⟩⟩ rfl rfl hl.1 rfl (lv_room (Nat.le_of_ble_eq_true rfl)) dX7_plus_119 ⟨Nat.zero_le _, Nat.zero_le _⟩)) (fun r_119 hr_119 => ?_)
              subst hr_119
              refine lv_aload_n hx hb dX7_plus_122 rfl (lv_at hl 0 rfl) ?_
              refine lv_iload_n hx hb dX7_plus_123 rfl (lv_at hl 1 rfl) ?_
              refine lv_lload hx hb dX7_plus_124 (lv_at hl 3 rfl) ?_
              refine vp_callSl (va_Run.run (va_runV (As := [.int (nI k), .long x2]) (rest := [.long (f_X7_unsigned k x1)]) ⟨hx, hb, hml, hown, hts⟩ (c_X7_unsigned l o r k h_k x2) (cwV 2 hts (gV iX7_unsigned (zin__r7 (.methodLink RX7 94 yX7_unsigned) (List.mem_of_getElem? (i := 4) rfl))) rfl rfl rfl (by decide +kernel) ⟨Nat.le_of_ble_eq_true rfl, Nat.le_of_ble_eq_true rfl⟩) ⟨fun a U g mk q => ⟨q.1, mU_bl q.2⟩, (mU_rv hm), fun U hU hW => ⟨rfl, mU_mv hm hU hW⟩⟩ rfl rfl hl.1 rfl (lv_room (Nat.le_of_ble_eq_true rfl)) dX7_plus_126 ⟨Nat.zero_le _, Nat.zero_le _⟩)) (fun r_126 hr_126 => ?_)
              subst hr_126
              refine W.lcmp hx hb dX7_plus_129 ?_
              refine lv_if_lt (tgt := 144) hx hb dX7_plus_130 (by decide) (fun c_130 => ?_) (fun c_130 => ?_)
              · have c_130 : (f_X7_unsigned k x1) < (f_X7_unsigned k x2) := (lg_cmp_lt (f_X7_unsigned k x1) (f_X7_unsigned k x2)).mp c_130
                have hf : f_X7_plus k x1 x2 = (f_X7_larger k x2 x1) := hf.trans (if_pos c_130)
                refine lv_aload_n hx hb dX7_plus_144 rfl (lv_at hl 0 rfl) ?_
                refine lv_iload_n hx hb dX7_plus_145 rfl (lv_at hl 1 rfl) ?_
                refine lv_lload hx hb dX7_plus_146 (lv_at hl 3 rfl) ?_
                refine lv_lload_n hx hb dX7_plus_148 rfl (lv_at hl 2 rfl) ?_
                refine vp_callSl (va_Run.run (va_runV (As := [.int (nI k), .long x2, .long x1]) (rest := []) ⟨hx, hb, hml, hown, hts⟩ (c_X7_larger l o r k h_k x2 x1 (kpos h_k hc2 c_16 c_83) (kpos h_k hc1 c_6 c_110)) (cwV 3 hts (gV iX7_larger (zin__r21 (.methodLink RX7 115 yX7_larger) (List.mem_of_getElem? (i := 6) rfl))) rfl rfl rfl (by decide +kernel) ⟨Nat.le_of_ble_eq_true rfl, Nat.le_of_ble_eq_true rfl⟩) ⟨fun a U g mk q => ⟨q.1, mU_bl q.2⟩, (mU_rv hm), fun U hU hW => ⟨rfl, mU_mv hm hU hW⟩⟩ rfl rfl hl.1 rfl (lv_room (Nat.le_of_ble_eq_true rfl)) dX7_plus_149 ⟨Nat.zero_le _, Nat.zero_le _⟩)) (fun r_149 hr_149 => ?_)
                subst hr_149
                exact W.lret hx hb hr (fun t ht hW => ⟨_, rfl, hf.symm, ht⟩) (fun q hq => absurd hq List.not_mem_nil) dX7_plus_152
              · have c_130 : ¬ ((f_X7_unsigned k x1) < (f_X7_unsigned k x2)) := fun h9 => c_130 ((lg_cmp_lt (f_X7_unsigned k x1) (f_X7_unsigned k x2)).mpr h9)
                have hf : f_X7_plus k x1 x2 = (f_X7_larger k x1 x2) := hf.trans (if_neg c_130)
                refine lv_aload_n hx hb dX7_plus_133 rfl (lv_at hl 0 rfl) ?_
                refine lv_iload_n hx hb dX7_plus_134 rfl (lv_at hl 1 rfl) ?_
                refine lv_lload_n hx hb dX7_plus_135 rfl (lv_at hl 2 rfl) ?_
                refine lv_lload hx hb dX7_plus_136 (lv_at hl 3 rfl) ?_
                refine vp_callSl (va_Run.run (va_runV (As := [.int (nI k), .long x1, .long x2]) (rest := []) ⟨hx, hb, hml, hown, hts⟩ (c_X7_larger l o r k h_k x1 x2 (kpos h_k hc1 c_6 c_110) (kpos h_k hc2 c_16 c_83)) (cwV 3 hts (gV iX7_larger (zin__r21 (.methodLink RX7 115 yX7_larger) (List.mem_of_getElem? (i := 6) rfl))) rfl rfl rfl (by decide +kernel) ⟨Nat.le_of_ble_eq_true rfl, Nat.le_of_ble_eq_true rfl⟩) ⟨fun a U g mk q => ⟨q.1, mU_bl q.2⟩, (mU_rv hm), fun U hU hW => ⟨rfl, mU_mv hm hU hW⟩⟩ rfl rfl hl.1 rfl (lv_room (Nat.le_of_ble_eq_true rfl)) dX7_plus_138 ⟨Nat.zero_le _, Nat.zero_le _⟩)) (fun r_138 hr_138 => ?_)
                subst hr_138
                refine lv_goto (tgt := 152) hx hb dX7_plus_141 (by decide) ?_
                exact W.lret hx hb hr (fun t ht hW => ⟨_, rfl, hf.symm, ht⟩) (fun q hq => absurd hq List.not_mem_nil) dX7_plus_152
            · have hf : f_X7_plus k x1 x2 = x2 := hf.trans (if_neg c_110)
              refine lv_lload hx hb dX7_plus_113 (lv_at hl 3 rfl) ?_
              exact W.lret hx hb hr (fun t ht hW => ⟨_, rfl, hf.symm, ht⟩) (fun q hq => absurd hq List.not_mem_nil) dX7_plus_115
          · have hf : f_X7_plus k x1 x2 = (f_X7_plus_4 k x1 x2) := hf.trans (if_neg c_83)
            refine lv_aload_n hx hb dX7_plus_86 rfl (lv_at hl 0 rfl) ?_
            refine lv_iload_n hx hb dX7_plus_87 rfl (lv_at hl 1 rfl) ?_
            refine lv_lload_n hx hb dX7_plus_88 rfl (lv_at hl 2 rfl) ?_
            refine vp_callSi (va_Run.run (va_runV (As := [.int (nI k), .long x1]) (rest := []) ⟨hx, hb, hml, hown, hts⟩ (c_X7_zero l o r k h_k x1) (cwV 2 hts (gV iX7_zero (zin__r7 (.methodLink RX7 102 yX7_zero) (List.mem_of_getElem? (i := 21) rfl))) rfl rfl rfl (by decide +kernel) ⟨Nat.le_of_ble_eq_true rfl, Nat.le_of_ble_eq_true rfl⟩) ⟨fun a U g mk q => ⟨q.1, mU_bl q.2⟩, (mU_rv hm), fun U hU hW => ⟨rfl, mU_mv hm hU hW⟩⟩ rfl rfl hl.1 rfl (lv_room (Nat.le_of_ble_eq_true rfl)) dX7_plus_89 ⟨Nat.zero_le _, Nat.zero_le _⟩)) (fun r_89 hr_89 => ?_)
            subst hr_89
            refine lv_if_eq (tgt := 102) hx hb dX7_plus_92 (by decide) (fun c_92 => ?_) (fun c_92 => ?_)
            · have hf : f_X7_plus k x1 x2 = x1 := hf.trans (if_pos c_92)
              refine lv_lload_n hx hb dX7_plus_102 rfl (lv_at hl 2 rfl) ?_
              exact W.lret hx hb hr (fun t ht hW => ⟨_, rfl, hf.symm, ht⟩) (fun q hq => absurd hq List.not_mem_nil) dX7_plus_103
            · have hf : f_X7_plus k x1 x2 = (x1 &&& x2) := hf.trans (if_neg c_92)
              refine lv_lload_n hx hb dX7_plus_95 rfl (lv_at hl 2 rfl) ?_
              refine lv_lload hx hb dX7_plus_96 (lv_at hl 3 rfl) ?_
              refine lv_land hx hb dX7_plus_98 ?_
              refine lv_goto (tgt := 103) hx hb dX7_plus_99 (by decide) ?_
              exact W.lret hx hb hr (fun t ht hW => ⟨_, rfl, hf.symm, ht⟩) (fun q hq => absurd hq List.not_mem_nil) dX7_plus_103
        · have hf : f_X7_plus k x1 x2 = x2 := hf.trans (if_neg c_70)
          refine lv_lload hx hb dX7_plus_73 (lv_at hl 3 rfl) ?_
          exact W.lret hx hb hr (fun t ht hW => ⟨_, rfl, hf.symm, ht⟩) (fun q hq => absurd hq List.not_mem_nil) dX7_plus_75
      · have hf : f_X7_plus k x1 x2 = (f_X7_plus_8 k x1 x2) := hf.trans (if_neg c_32)
        refine lv_aload_n hx hb dX7_plus_35 rfl (lv_at hl 0 rfl) ?_
        refine lv_iload_n hx hb dX7_plus_36 rfl (lv_at hl 1 rfl) ?_
        refine lv_lload hx hb dX7_plus_37 (lv_at hl 3 rfl) ?_
        refine vp_callSi (va_Run.run (va_runV (As := [.int (nI k), .long x2]) (rest := []) ⟨hx, hb, hml, hown, hts⟩ (c_X7_infinite l o r k h_k x2) (cwV 2 hts (gV iX7_infinite (zin__r8 (.methodLink RX7 105 yX7_infinite) (List.mem_of_getElem? (i := 1) rfl))) rfl rfl rfl (by decide +kernel) ⟨Nat.le_of_ble_eq_true rfl, Nat.le_of_ble_eq_true rfl⟩) ⟨fun a U g mk q => ⟨q.1, mU_bl q.2⟩, (mU_rv hm), fun U hU hW => ⟨rfl, mU_mv hm hU hW⟩⟩ rfl rfl hl.1 rfl (lv_room (Nat.le_of_ble_eq_true rfl)) dX7_plus_39 ⟨Nat.zero_le _, Nat.zero_le _⟩)) (fun r_39 hr_39 => ?_)
        subst hr_39
        refine lv_if_eq (tgt := 61) hx hb dX7_plus_42 (by decide) (fun c_42 => ?_) (fun c_42 => ?_)
        · have hf : f_X7_plus k x1 x2 = x1 := hf.trans (if_pos c_42)
          refine lv_lload_n hx hb dX7_plus_61 rfl (lv_at hl 2 rfl) ?_
          exact W.lret hx hb hr (fun t ht hW => ⟨_, rfl, hf.symm, ht⟩) (fun q hq => absurd hq List.not_mem_nil) dX7_plus_62
        · have hf : f_X7_plus k x1 x2 = (f_X7_plus_7 k x1 x2) := hf.trans (if_neg c_42)
          refine lv_lload_n hx hb dX7_plus_45 rfl (lv_at hl 2 rfl) ?_
          refine lv_lload hx hb dX7_plus_46 (lv_at hl 3 rfl) ?_
          refine W.lcmp hx hb dX7_plus_48 ?_
          refine lv_if_eq (tgt := 61) hx hb dX7_plus_49 (by decide) (fun c_49 => ?_) (fun c_49 => ?_)
          · have c_49 : x1 = x2 := (lg_cmp_eq x1 x2).mp c_49
            have hf : f_X7_plus k x1 x2 = x1 := hf.trans (if_pos c_49)
            refine lv_lload_n hx hb dX7_plus_61 rfl (lv_at hl 2 rfl) ?_
            exact W.lret hx hb hr (fun t ht hW => ⟨_, rfl, hf.symm, ht⟩) (fun q hq => absurd hq List.not_mem_nil) dX7_plus_62
          · have c_49 : ¬ (x1 = x2) := fun h9 => c_49 ((lg_cmp_eq x1 x2).mpr h9)
            have hf : f_X7_plus k x1 x2 = (knan k) := hf.trans (if_neg c_49)
            refine lv_aload_n hx hb dX7_plus_52 rfl (lv_at hl 0 rfl) ?_
            refine vk_getf hx hb (mE_NONE hm) va_S.rf hown (hts _ (zin__r2 (.fieldLink RX7 38 "ReckonBenchModel" "NONE" "[J") (List.mem_of_getElem? (i := 21) rfl))) (fun _ h9 => h9) dX7_plus_53 ?_
            refine lv_iload_n hx hb dX7_plus_56 rfl (lv_at hl 1 rfl) ?_
            refine va_tl hx hb (mT_NONE hm) va_S.rf (kin h_k) (v := .long (knan k)) (kev (fun j => Value.long (knan j)) h_k) dX7_plus_57 ?_
            refine lv_goto (tgt := 62) hx hb dX7_plus_58 (by decide) ?_
            exact W.lret hx hb hr (fun t ht hW => ⟨_, rfl, hf.symm, ht⟩) (fun q hq => absurd hq List.not_mem_nil) dX7_plus_62
    · have hf : f_X7_plus k x1 x2 = (f_X7_plus_1 k) := hf.trans (if_neg c_16)
      exact K_19 () ls hf (lv_sub hl [0, 1] rfl)
def f_X7_times_1 (k : Nat) : Int64 := (knan k)
def f_X7_times_2 (k : Nat) : Int64 := (knan k)
def f_X7_times_3 (k : Nat) (x2 : Int64) (w_1 : Int32) : Int64 := if (f_X7_zero k x2) = 0 then (f_X7_signed k (kinf k) w_1) else (f_X7_times_2 k)
def f_X7_times_4 (k : Nat) (x1 : Int64) (x2 : Int64) (w_1 : Int32) : Int64 := if (f_X7_zero k x1) = 0 then (f_X7_times_3 k x2 w_1) else (f_X7_times_2 k)
def f_X7_times_5 (k : Nat) (w_1 : Int32) : Int64 := (f_X7_signed k (0 : Int64) w_1)
def f_X7_times_6 (k : Nat) (w_1 : Int32) (v11_4 : Int32) (v16_7 : Int64) (v18_8 : Int64) (w_9 : Int32) : Int64 := (f_X7_round k w_1 ((jlshl v16_7 (9 : Int32)) ||| (jlshr v18_8 (45 : Int32))) (v11_4 + (45 : Int32)) w_9)
def f_X7_times_7 (k : Nat) (w_1 : Int32) (v11_4 : Int32) (v16_7 : Int64) (v18_8 : Int64) : Int64 := if (v18_8 &&& (35184372088831 : Int64)) = (0 : Int64) then (f_X7_times_6 k w_1 v11_4 v16_7 v18_8 (0 : Int32)) else (f_X7_times_6 k w_1 v11_4 v16_7 v18_8 (1 : Int32))
def f_X7_times_8 (k : Nat) (w_1 : Int32) (v11_4 : Int32) (v16_7 : Int64) (v18_8 : Int64) : Int64 := if v16_7 = (0 : Int64) then (f_X7_round k w_1 v18_8 v11_4 (0 : Int32)) else (f_X7_times_7 k w_1 v11_4 v16_7 v18_8)
def f_X7_times_9 (k : Nat) (w_1 : Int32) (v7_2 : Int64) (v9_3 : Int64) (v11_4 : Int32) (v12_5 : Int64) (v14_6 : Int64) : Int64 := (f_X7_times_8 k w_1 v11_4 (((jlshr v7_2 (27 : Int32)) * (jlshr v9_3 (27 : Int32))) + (jlshr v14_6 (27 : Int32))) ((jlshl (v14_6 &&& (134217727 : Int64)) (27 : Int32)) ||| (v12_5 &&& (134217727 : Int64))))
def f_X7_times_10 (k : Nat) (w_1 : Int32) (v7_2 : Int64) (v9_3 : Int64) (v11_4 : Int32) (v12_5 : Int64) : Int64 := (f_X7_times_9 k w_1 v7_2 v9_3 v11_4 v12_5 ((((jlshr v7_2 (27 : Int32)) * (v9_3 &&& (134217727 : Int64))) + ((v7_2 &&& (134217727 : Int64)) * (jlshr v9_3 (27 : Int32)))) + (jlshr v12_5 (27 : Int32))))
def f_X7_times_11 (k : Nat) (x1 : Int64) (x2 : Int64) (w_1 : Int32) (v7_2 : Int64) (v9_3 : Int64) : Int64 := (f_X7_times_10 k w_1 v7_2 v9_3 ((f_X7_power k x1) + (f_X7_power k x2)) ((v7_2 &&& (134217727 : Int64)) * (v9_3 &&& (134217727 : Int64))))
def f_X7_times_12 (k : Nat) (x1 : Int64) (x2 : Int64) (w_1 : Int32) : Int64 := if (f_X7_zero k x2) = 0 then (f_X7_times_11 k x1 x2 w_1 (f_X7_mantissa k x1) (f_X7_mantissa k x2)) else (f_X7_times_5 k w_1)
def f_X7_times_13 (k : Nat) (x1 : Int64) (x2 : Int64) (w_1 : Int32) : Int64 := if (f_X7_zero k x1) = 0 then (f_X7_times_12 k x1 x2 w_1) else (f_X7_times_5 k w_1)
def f_X7_times_14 (k : Nat) (x1 : Int64) (x2 : Int64) (w_1 : Int32) : Int64 := if (f_X7_infinite k x2) = 0 then (f_X7_times_13 k x1 x2 w_1) else (f_X7_times_4 k x1 x2 w_1)
def f_X7_times_15 (k : Nat) (x1 : Int64) (x2 : Int64) (w_1 : Int32) : Int64 := if (f_X7_infinite k x1) = 0 then (f_X7_times_14 k x1 x2 w_1) else (f_X7_times_4 k x1 x2 w_1)
def f_X7_times_16 (k : Nat) (x1 : Int64) (x2 : Int64) : Int64 := if (f_X7_minus k x1) = (f_X7_minus k x2) then (f_X7_times_15 k x1 x2 (0 : Int32)) else (f_X7_times_15 k x1 x2 (1 : Int32))
def f_X7_times_17 (k : Nat) (x1 : Int64) (x2 : Int64) : Int64 := if (f_X7_none k x2) = 0 then (f_X7_times_16 k x1 x2) else (f_X7_times_1 k)
def f_X7_times_18 (k : Nat) (x1 : Int64) (x2 : Int64) : Int64 := if (f_X7_none k x1) = 0 then (f_X7_times_17 k x1 x2) else (f_X7_times_1 k)
def f_X7_times (k : Nat) (x1 : Int64) (x2 : Int64) : Int64 := (f_X7_times_18 k x1 x2)
def zX7_times : List Cond := .code yX7_times cX7_times 20 (some .long) :: zall
theorem iX7_times : MWv RX7 yX7_times (.code yX7_times cX7_times 20 (some .long)) := ⟨(zin__r21 (.instanceMethod yX7_times) (List.mem_of_getElem? (i := 15) rfl)), (zin__r21 (.selects RX7 yX7_times yX7_times) (List.mem_of_getElem? (i := 16) rfl)), (zin__r1 (.initialized RX7) (List.mem_of_getElem? (i := 5) rfl)), (zin__r21 (.code yX7_times cX7_times 20 (some .long)) (List.mem_of_getElem? (i := 17) rfl))⟩
set_option maxHeartbeats 4000000 in
set_option maxRecDepth 100000 in
theorem c_X7_times (l : Launch) (o : Nat) (r : Nat → Nat) (k : Nat) (h_k : k < 2) (x1 : Int64) (x2 : Int64) (hc1 : kcn k x1) (hc2 : kcn k x2) : Met l yX7_times zX7_times ({ frames := 2, cells := 0, slots := 0, locals := 59 }) (va_Pc [.ref o, .int (nI k), .long x1, .long x2] (fun U => mU o r U)) (vp_Sl (fun r => r = f_X7_times k x1 x2)) 0 0 (fun _ => False) := by
  refine Met.ofW (cc := cX7_times) (maxL := 20) (ret := (some .long)) (by decide) rfl ?_
  intro p e s m args below meth c s₁ B hml hv
  obtain ⟨rfl, hm⟩ := hv
  have hx := B.exec
  have hb := B.bytes
  have hr := B.returns
  have hts : ∀ w ∈ zall, w.before _ s = true := fun w h => atoms_spec (ws := zX7_times) B.pre w (List.mem_cons_of_mem _ h)
  have hown : s.vm.findClass RX7 = some m.cls := findClass_of_methodNamed B.named
  have hlocks := B.notSynchronized
  have hl := lv_entry ([.ref o, .int (nI k), .long x1, .long x2]) (n := 20) (Nat.le_of_ble_eq_true rfl)
  rw [lg_entry_eq]
  generalize (lg_sl ([.ref o, .int (nI k), .long x1, .long x2]) ++ List.replicate (20 - (lg_sl ([.ref o, .int (nI k), .long x1, .long x2])).length) Slot.unset).toArray = ls at hl ⊢
  have hl : lv_has ls 20 [(0, .ref o), (1, .int (nI k)), (2, .long x1), (4, .long x2)] := hl
  have hf : f_X7_times k x1 x2 = (f_X7_times_18 k x1 x2) := rfl
  refine lv_aload_n hx hb dX7_times_0 rfl (lv_at hl 0 rfl) ?_
  refine lv_iload_n hx hb dX7_times_1 rfl (lv_at hl 1 rfl) ?_
  refine lv_lload_n hx hb dX7_times_2 rfl (lv_at hl 2 rfl) ?_
  refine vp_callSi (va_Run.run (va_runV (As := [.int (nI k), .long x1]) (rest := []) ⟨hx, hb, hml, hown, hts⟩ (c_X7_none l o r k h_k x1) (cwV 2 hts (gV iX7_none (zin__r7 (.methodLink RX7 98 yX7_none) (List.mem_of_getElem? (i := 17) rfl))) rfl rfl rfl (by decide +kernel) ⟨Nat.le_of_ble_eq_true rfl, Nat.le_of_ble_eq_true rfl⟩) ⟨fun a U g mk q => ⟨q.1, mU_bl q.2⟩, (mU_rv hm), fun U hU hW => ⟨rfl, mU_mv hm hU hW⟩⟩ rfl rfl hl.1 rfl (lv_room (Nat.le_of_ble_eq_true rfl)) dX7_times_3 ⟨Nat.zero_le _, Nat.zero_le _⟩)) (fun r_3 hr_3 => ?_)
  subst hr_3
  refine W_cut (α := Unit) (pcJ := 19) (nL := 20) (fun v => f_X7_times k x1 x2 = (f_X7_times_1 k)) (fun v => []) (fun v => [(0, .ref o), (1, .int (nI k))]) (fun v ls hf hl => ?_) (fun K_19 => ?_)
  · have hf : f_X7_times k x1 x2 = (knan k) := hf
    have hl : lv_has ls 20 [(0, .ref o), (1, .int (nI k))] := hl
    refine lv_aload_n hx hb dX7_times_19 rfl (lv_at hl 0 rfl) ?_
    refine vk_getf hx hb (mE_NONE hm) va_S.rf hown (hts _ (zin__r2 (.fieldLink RX7 38 "ReckonBenchModel" "NONE" "[J") (List.mem_of_getElem? (i := 21) rfl))) (fun _ h9 => h9) dX7_times_20 ?_
    refine lv_iload_n hx hb dX7_times_23 rfl (lv_at hl 1 rfl) ?_
    refine va_tl hx hb (mT_NONE hm) va_S.rf (kin h_k) (v := .long (knan k)) (kev (fun j => Value.long (knan j)) h_k) dX7_times_24 ?_
    exact W.lret hx hb hr (fun t ht hW => ⟨_, rfl, hf.symm, ht⟩) (fun q hq => absurd hq List.not_mem_nil) dX7_times_25
  refine lv_if_ne (tgt := 19) hx hb dX7_times_6 (by decide) (fun c_6 => ?_) (fun c_6 => ?_)
  · have hf : f_X7_times k x1 x2 = (f_X7_times_1 k) := hf.trans (if_neg c_6)
    exact K_19 () ls hf (lv_sub hl [0, 1] rfl)
  · have hf : f_X7_times k x1 x2 = (f_X7_times_17 k x1 x2) := hf.trans (if_pos c_6)
    refine lv_aload_n hx hb dX7_times_9 rfl (lv_at hl 0 rfl) ?_
    refine lv_iload_n hx hb dX7_times_10 rfl (lv_at hl 1 rfl) ?_
    refine lv_lload hx hb dX7_times_11 (lv_at hl 3 rfl) ?_
    refine vp_callSi (va_Run.run (va_runV (As := [.int (nI k), .long x2]) (rest := []) ⟨hx, hb, hml, hown, hts⟩ (c_X7_none l o r k h_k x2) (cwV 2 hts (gV iX7_none (zin__r7 (.methodLink RX7 98 yX7_none) (List.mem_of_getElem? (i := 17) rfl))) rfl rfl rfl (by decide +kernel) ⟨Nat.le_of_ble_eq_true rfl, Nat.le_of_ble_eq_true rfl⟩) ⟨fun a U g mk q => ⟨q.1, mU_bl q.2⟩, (mU_rv hm), fun U hU hW => ⟨rfl, mU_mv hm hU hW⟩⟩ rfl rfl hl.1 rfl (lv_room (Nat.le_of_ble_eq_true rfl)) dX7_times_13 ⟨Nat.zero_le _, Nat.zero_le _⟩)) (fun r_13 hr_13 => ?_)
    subst hr_13
    refine lv_if_eq (tgt := 26) hx hb dX7_times_16 (by decide) (fun c_16 => ?_) (fun c_16 => ?_)
    · have hf : f_X7_times k x1 x2 = (f_X7_times_16 k x1 x2) := hf.trans (if_pos c_16)
      refine lv_aload_n hx hb dX7_times_26 rfl (lv_at hl 0 rfl) ?_
      refine lv_iload_n hx hb dX7_times_27 rfl (lv_at hl 1 rfl) ?_
      refine lv_lload_n hx hb dX7_times_28 rfl (lv_at hl 2 rfl) ?_
      refine vp_callSi (va_Run.run (va_runV (As := [.int (nI k), .long x1]) (rest := []) ⟨hx, hb, hml, hown, hts⟩ (c_X7_minus l o r k h_k x1) (cwV 2 hts (gV iX7_minus (zin__r8 (.methodLink RX7 108 yX7_minus) (List.mem_of_getElem? (i := 5) rfl))) rfl rfl rfl (by decide +kernel) ⟨Nat.le_of_ble_eq_true rfl, Nat.le_of_ble_eq_true rfl⟩) ⟨fun a U g mk q => ⟨q.1, mU_bl q.2⟩, (mU_rv hm), fun U hU hW => ⟨rfl, mU_mv hm hU hW⟩⟩ rfl rfl hl.1 rfl (lv_room (Nat.le_of_ble_eq_true rfl)) dX7_times_29 ⟨Nat.zero_le _, Nat.zero_le _⟩)) (fun r_29 hr_29 => ?_)
      subst hr_29
      refine lv_aload_n hx hb dX7_times_32 rfl (lv_at hl 0 rfl) ?_
      refine lv_iload_n hx hb dX7_times_33 rfl (lv_at hl 1 rfl) ?_
      refine lv_lload hx hb dX7_times_34 (lv_at hl 3 rfl) ?_
      refine vp_callSi (va_Run.run (va_runV (As := [.int (nI k), .long x2]) (rest := [.int (f_X7_minus k x1)]) ⟨hx, hb, hml, hown, hts⟩ (c_X7_minus l o r k h_k x2) (cwV 2 hts (gV iX7_minus (zin__r8 (.methodLink RX7 108 yX7_minus) (List.mem_of_getElem? (i := 5) rfl))) rfl rfl rfl (by decide +kernel) ⟨Nat.le_of_ble_eq_true rfl, Nat.le_of_ble_eq_true rfl⟩) ⟨fun a U g mk q => ⟨q.1, mU_bl q.2⟩, (mU_rv hm), fun U hU hW => ⟨rfl, mU_mv hm hU hW⟩⟩ rfl rfl hl.1 rfl (lv_room (Nat.le_of_ble_eq_true rfl)) dX7_times_36 ⟨Nat.zero_le _, Nat.zero_le _⟩)) (fun r_36 hr_36 => ?_)
      subst hr_36
      refine W_cut (α := Int32) (pcJ := 47) (nL := 20) (fun v => f_X7_times k x1 x2 = (f_X7_times_15 k x1 x2 v)) (fun v => [.int v]) (fun v => [(0, .ref o), (1, .int (nI k)), (2, .long x1), (4, .long x2)]) (fun w_1 ls hf hl => ?_) (fun K_47 => ?_)
      · have hf : f_X7_times k x1 x2 = (f_X7_times_15 k x1 x2 w_1) := hf
        have hl : lv_has ls 20 [(0, .ref o), (1, .int (nI k)), (2, .long x1), (4, .long x2)] := hl
        refine lv_istore (lv' := [(6, .int w_1), (0, .ref o), (1, .int (nI k)), (2, .long x1), (4, .long x2)]) hx hb dX7_times_47 hl (by decide) rfl (fun ls hl => ?_)
        refine lv_aload_n hx hb dX7_times_49 rfl (lv_at hl 1 rfl) ?_
        refine lv_iload_n hx hb dX7_times_50 rfl (lv_at hl 2 rfl) ?_
        refine lv_lload_n hx hb dX7_times_51 rfl (lv_at hl 3 rfl) ?_
        refine vp_callSi (va_Run.run (va_runV (As := [.int (nI k), .long x1]) (rest := []) ⟨hx, hb, hml, hown, hts⟩ (c_X7_infinite l o r k h_k x1) (cwV 2 hts (gV iX7_infinite (zin__r8 (.methodLink RX7 105 yX7_infinite) (List.mem_of_getElem? (i := 1) rfl))) rfl rfl rfl (by decide +kernel) ⟨Nat.le_of_ble_eq_true rfl, Nat.le_of_ble_eq_true rfl⟩) ⟨fun a U g mk q => ⟨q.1, mU_bl q.2⟩, (mU_rv hm), fun U hU hW => ⟨rfl, mU_mv hm hU hW⟩⟩ rfl rfl hl.1 rfl (lv_room (Nat.le_of_ble_eq_true rfl)) dX7_times_52 ⟨Nat.zero_le _, Nat.zero_le _⟩)) (fun r_52 hr_52 => ?_)
        subst hr_52
        refine W_cut (α := Unit) (pcJ := 68) (nL := 20) (fun v => f_X7_times k x1 x2 = (f_X7_times_4 k x1 x2 w_1)) (fun v => []) (fun v => [(0, .ref o), (1, .int (nI k)), (2, .long x1), (4, .long x2), (6, .int w_1)]) (fun v ls hf hl => ?_) (fun K_68 => ?_)
        · have hf : f_X7_times k x1 x2 = (f_X7_times_4 k x1 x2 w_1) := hf
          have hl : lv_has ls 20 [(0, .ref o), (1, .int (nI k)), (2, .long x1), (4, .long x2), (6, .int w_1)] := hl
          refine lv_aload_n hx hb dX7_times_68 rfl (lv_at hl 0 rfl) ?_
          refine lv_iload_n hx hb dX7_times_69 rfl (lv_at hl 1 rfl) ?_
          refine lv_lload_n hx hb dX7_times_70 rfl (lv_at hl 2 rfl) ?_
          refine vp_callSi (va_Run.run (va_runV (As := [.int (nI k), .long x1]) (rest := []) ⟨hx, hb, hml, hown, hts⟩ (c_X7_zero l o r k h_k x1) (cwV 2 hts (gV iX7_zero (zin__r7 (.methodLink RX7 102 yX7_zero) (List.mem_of_getElem? (i := 21) rfl))) rfl rfl rfl (by decide +kernel) ⟨Nat.le_of_ble_eq_true rfl, Nat.le_of_ble_eq_true rfl⟩) ⟨fun a U g mk q => ⟨q.1, mU_bl q.2⟩, (mU_rv hm), fun U hU hW => ⟨rfl, mU_mv hm hU hW⟩⟩ rfl rfl hl.1 rfl (lv_room (Nat.le_of_ble_eq_true rfl)) dX7_times_71 ⟨Nat.zero_le _, Nat.zero_le _⟩)) (fun r_71 hr_71 => ?_)
          subst hr_71
          refine W_cut (α := Unit) (pcJ := 87) (nL := 20) (fun v => f_X7_times k x1 x2 = (f_X7_times_2 k)) (fun v => []) (fun v => [(0, .ref o), (1, .int (nI k))]) (fun v ls hf hl => ?_) (fun K_87 => ?_)
          · have hf : f_X7_times k x1 x2 = (knan k) := hf
            have hl : lv_has ls 20 [(0, .ref o), (1, .int (nI k))] := hl
            refine lv_aload_n hx hb dX7_times_87 rfl (lv_at hl 0 rfl) ?_
            refine vk_getf hx hb (mE_NONE hm) va_S.rf hown (hts _ (zin__r2 (.fieldLink RX7 38 "ReckonBenchModel" "NONE" "[J") (List.mem_of_getElem? (i := 21) rfl))) (fun _ h9 => h9) dX7_times_88 ?_
            refine lv_iload_n hx hb dX7_times_91 rfl (lv_at hl 1 rfl) ?_
            refine va_tl hx hb (mT_NONE hm) va_S.rf (kin h_k) (v := .long (knan k)) (kev (fun j => Value.long (knan j)) h_k) dX7_times_92 ?_
            refine lv_goto (tgt := 109) hx hb dX7_times_93 (by decide) ?_
            exact W.lret hx hb hr (fun t ht hW => ⟨_, rfl, hf.symm, ht⟩) (fun q hq => absurd hq List.not_mem_nil) dX7_times_109
          refine lv_if_ne (tgt := 87) hx hb dX7_times_74 (by decide) (fun c_74 => ?_) (fun c_74 => ?_)
          · have hf : f_X7_times k x1 x2 = (f_X7_times_2 k) := hf.trans (if_neg c_74)
            exact K_87 () ls hf (lv_sub hl [0, 1] rfl)
          · have hf : f_X7_times k x1 x2 = (f_X7_times_3 k x2 w_1) := hf.trans (if_pos c_74)
            refine lv_aload_n hx hb dX7_times_77 rfl (lv_at hl 0 rfl) ?_
            refine lv_iload_n hx hb dX7_times_78 rfl (lv_at hl 1 rfl) ?_
            refine lv_lload hx hb dX7_times_79 (lv_at hl 3 rfl) ?_
            refine vp_callSi (va_Run.run (va_runV (As := [.int (nI k), .long x2]) (rest := []) ⟨hx, hb, hml, hown, hts⟩ (c_X7_zero l o r k h_k x2) (cwV 2 hts (gV iX7_zero (zin__r7 (.methodLink RX7 102 yX7_zero) (List.mem_of_getElem? (i := 21) rfl))) rfl rfl rfl (by decide +kernel) ⟨Nat.le_of_ble_eq_true rfl, Nat.le_of_ble_eq_true rfl⟩) ⟨fun a U g mk q => ⟨q.1, mU_bl q.2⟩, (mU_rv hm), fun U hU hW => ⟨rfl, mU_mv hm hU hW⟩⟩ rfl rfl hl.1 rfl (lv_room (Nat.le_of_ble_eq_true rfl)) dX7_times_81 ⟨Nat.zero_le _, Nat.zero_le _⟩)) (fun r_81 hr_81 => ?_)
            subst hr_81
            refine lv_if_eq (tgt := 96) hx hb dX7_times_84 (by decide) (fun c_84 => ?_) (fun c_84 => ?_)
            · have hf : f_X7_times k x1 x2 = (f_X7_signed k (kinf k) w_1) := hf.trans (if_pos c_84)
              refine lv_aload_n hx hb dX7_times_96 rfl (lv_at hl 0 rfl) ?_
              refine lv_iload_n hx hb dX7_times_97 rfl (lv_at hl 1 rfl) ?_
              refine lv_aload_n hx hb dX7_times_98 rfl (lv_at hl 0 rfl) ?_
              refine vk_getf hx hb (mE_INFINITE hm) va_S.rf hown (hts _ (zin__r2 (.fieldLink RX7 31 "ReckonBenchModel" "INFINITE" "[J") (List.mem_of_getElem? (i := 18) rfl))) (fun _ h9 => h9) dX7_times_99 ?_
              refine lv_iload_n hx hb dX7_times_102 rfl (lv_at hl 1 rfl) ?_
              refine va_tl hx hb (mT_INFINITE hm) va_S.rf (kin h_k) (v := .long (kinf k)) (kev (fun j => Value.long (kinf j)) h_k) dX7_times_103 ?_
              refine lv_iload hx hb dX7_times_104 (lv_at hl 4 rfl) ?_
              refine vp_callSl (va_Run.run (va_runV (As := [.int (nI k), .long (kinf k), .int w_1]) (rest := []) ⟨hx, hb, hml, hown, hts⟩ (c_X7_signed l o r k h_k (kinf k) w_1) (cwV 3 hts (gV iX7_signed (zin__r10 (.methodLink RX7 111 yX7_signed) (List.mem_of_getElem? (i := 5) rfl))) rfl rfl rfl (by decide +kernel) ⟨Nat.le_of_ble_eq_true rfl, Nat.le_of_ble_eq_true rfl⟩) ⟨fun a U g mk q => ⟨q.1, mU_bl q.2⟩, (mU_rv hm), fun U hU hW => ⟨rfl, mU_mv hm hU hW⟩⟩ rfl rfl hl.1 rfl (lv_room (Nat.le_of_ble_eq_true rfl)) dX7_times_106 ⟨Nat.zero_le _, Nat.zero_le _⟩)) (fun r_106 hr_106 => ?_)
              subst hr_106
              exact W.lret hx hb hr (fun t ht hW => ⟨_, rfl, hf.symm, ht⟩) (fun q hq => absurd hq List.not_mem_nil) dX7_times_109
            · have hf : f_X7_times k x1 x2 = (f_X7_times_2 k) := hf.trans (if_neg c_84)
              exact K_87 () ls hf (lv_sub hl [0, 1] rfl)
        refine lv_if_ne (tgt := 68) hx hb dX7_times_55 (by decide) (fun c_55 => ?_) (fun c_55 => ?_)
        · have hf : f_X7_times k x1 x2 = (f_X7_times_4 k x1 x2 w_1) := hf.trans (if_neg c_55)
          exact K_68 () ls hf (lv_sub hl [1, 2, 3, 4, 0] rfl)
        · have hf : f_X7_times k x1 x2 = (f_X7_times_14 k x1 x2 w_1) := hf.trans (if_pos c_55)
          refine lv_aload_n hx hb dX7_times_58 rfl (lv_at hl 1 rfl) ?_
          refine lv_iload_n hx hb dX7_times_59 rfl (lv_at hl 2 rfl) ?_
          refine lv_lload hx hb dX7_times_60 (lv_at hl 4 rfl) ?_
          refine vp_callSi (va_Run.run (va_runV (As := [.int (nI k), .long x2]) (rest := []) ⟨hx, hb, hml, hown, hts⟩ (c_X7_infinite l o r k h_k x2) (cwV 2 hts (gV iX7_infinite (zin__r8 (.methodLink RX7 105 yX7_infinite) (List.mem_of_getElem? (i := 1) rfl))) rfl rfl rfl (by decide +kernel) ⟨Nat.le_of_ble_eq_true rfl, Nat.le_of_ble_eq_true rfl⟩) ⟨fun a U g mk q => ⟨q.1, mU_bl q.2⟩, (mU_rv hm), fun U hU hW => ⟨rfl, mU_mv hm hU hW⟩⟩ rfl rfl hl.1 rfl (lv_room (Nat.le_of_ble_eq_true rfl)) dX7_times_62 ⟨Nat.zero_le _, Nat.zero_le _⟩)) (fun r_62 hr_62 => ?_)
          subst hr_62
          refine lv_if_eq (tgt := 110) hx hb dX7_times_65 (by decide) (fun c_65 => ?_) (fun c_65 => ?_)
          · have hf : f_X7_times k x1 x2 = (f_X7_times_13 k x1 x2 w_1) := hf.trans (if_pos c_65)
            refine lv_aload_n hx hb dX7_times_110 rfl (lv_at hl 1 rfl) ?_
            refine lv_iload_n hx hb dX7_times_111 rfl (lv_at hl 2 rfl) ?_
            refine lv_lload_n hx hb dX7_times_112 rfl (lv_at hl 3 rfl) ?_
            refine vp_callSi (va_Run.run (va_runV (As := [.int (nI k), .long x1]) (rest := []) ⟨hx, hb, hml, hown, hts⟩ (c_X7_zero l o r k h_k x1) (cwV 2 hts (gV iX7_zero (zin__r7 (.methodLink RX7 102 yX7_zero) (List.mem_of_getElem? (i := 21) rfl))) rfl rfl rfl (by decide +kernel) ⟨Nat.le_of_ble_eq_true rfl, Nat.le_of_ble_eq_true rfl⟩) ⟨fun a U g mk q => ⟨q.1, mU_bl q.2⟩, (mU_rv hm), fun U hU hW => ⟨rfl, mU_mv hm hU hW⟩⟩ rfl rfl hl.1 rfl (lv_room (Nat.le_of_ble_eq_true rfl)) dX7_times_113 ⟨Nat.zero_le _, Nat.zero_le _⟩)) (fun r_113 hr_113 => ?_)
            subst hr_113
            refine W_cut (α := Unit) (pcJ := 129) (nL := 20) (fun v => f_X7_times k x1 x2 = (f_X7_times_5 k w_1)) (fun v => []) (fun v => [(0, .ref o), (1, .int (nI k)), (6, .int w_1)]) (fun v ls hf hl => ?_) (fun K_129 => ?_)
            · have hf : f_X7_times k x1 x2 = (f_X7_signed k (0 : Int64) w_1) := hf
              have hl : lv_has ls 20 [(0, .ref o), (1, .int (nI k)), (6, .int w_1)] := hl
              refine lv_aload_n hx hb dX7_times_129 rfl (lv_at hl 0 rfl) ?_
              refine lv_iload_n hx hb dX7_times_130 rfl (lv_at hl 1 rfl) ?_
              refine lv_lconst (v := 0) hx hb dX7_times_131 (by decide) ?_
              refine lv_iload hx hb dX7_times_132 (lv_at hl 2 rfl) ?_
              refine vp_callSl (va_Run.run (va_runV (As := [.int (nI k), .long (0 : Int64), .int w_1]) (rest := []) ⟨hx, hb, hml, hown, hts⟩ (c_X7_signed l o r k h_k (0 : Int64) w_1) (cwV 3 hts (gV iX7_signed (zin__r10 (.methodLink RX7 111 yX7_signed) (List.mem_of_getElem? (i := 5) rfl))) rfl rfl rfl (by decide +kernel) ⟨Nat.le_of_ble_eq_true rfl, Nat.le_of_ble_eq_true rfl⟩) ⟨fun a U g mk q => ⟨q.1, mU_bl q.2⟩, (mU_rv hm), fun U hU hW => ⟨rfl, mU_mv hm hU hW⟩⟩ rfl rfl hl.1 rfl (lv_room (Nat.le_of_ble_eq_true rfl)) dX7_times_134 ⟨Nat.zero_le _, Nat.zero_le _⟩)) (fun r_134 hr_134 => ?_)
              subst hr_134
              exact W.lret hx hb hr (fun t ht hW => ⟨_, rfl, hf.symm, ht⟩) (fun q hq => absurd hq List.not_mem_nil) dX7_times_137
            refine lv_if_ne (tgt := 129) hx hb dX7_times_116 (by decide) (fun c_116 => ?_) (fun c_116 => ?_)
            · have hf : f_X7_times k x1 x2 = (f_X7_times_5 k w_1) := hf.trans (if_neg c_116)
              exact K_129 () ls hf (lv_sub hl [1, 2, 0] rfl)
            · have hf : f_X7_times k x1 x2 = (f_X7_times_12 k x1 x2 w_1) := hf.trans (if_pos c_116)
              refine lv_aload_n hx hb dX7_times_119 rfl (lv_at hl 1 rfl) ?_
              refine lv_iload_n hx hb dX7_times_120 rfl (lv_at hl 2 rfl) ?_
              refine lv_lload hx hb dX7_times_121 (lv_at hl 4 rfl) ?_
              refine vp_callSi (va_Run.run (va_runV (As := [.int (nI k), .long x2]) (rest := []) ⟨hx, hb, hml, hown, hts⟩ (c_X7_zero l o r k h_k x2) (cwV 2 hts (gV iX7_zero (zin__r7 (.methodLink RX7 102 yX7_zero) (List.mem_of_getElem? (i := 21) rfl))) rfl rfl rfl (by decide +kernel) ⟨Nat.le_of_ble_eq_true rfl, Nat.le_of_ble_eq_true rfl⟩) ⟨fun a U g mk q => ⟨q.1, mU_bl q.2⟩, (mU_rv hm), fun U hU hW => ⟨rfl, mU_mv hm hU hW⟩⟩ rfl rfl hl.1 rfl (lv_room (Nat.le_of_ble_eq_true rfl)) dX7_times_123 ⟨Nat.zero_le _, Nat.zero_le _⟩)) (fun r_123 hr_123 => ?_)
              subst hr_123
              refine lv_if_eq (tgt := 138) hx hb dX7_times_126 (by decide) (fun c_126 => ?_) (fun c_126 => ?_)
              · have hf : f_X7_times k x1 x2 = (f_X7_times_11 k x1 x2 w_1 (f_X7_mantissa k x1) (f_X7_mantissa k x2)) := hf.trans (if_pos c_126)
                refine lv_aload_n hx hb dX7_times_138 rfl (lv_at hl 1 rfl) ?_
                refine lv_iload_n hx hb dX7_times_139 rfl (lv_at hl 2 rfl) ?_
                refine lv_lload_n hx hb dX7_times_140 rfl (lv_at hl 3 rfl) ?_
                refine vp_callSl (va_Run.run (va_runV (As := [.int (nI k), .long x1]) (rest := []) ⟨hx, hb, hml, hown, hts⟩ (c_X7_mantissa l o r k h_k x1 (kpos h_k hc1 c_6 c_116)) (cwV 2 hts (gV iX7_mantissa (zin__r13 (.methodLink RX7 119 yX7_mantissa) (List.mem_of_getElem? (i := 3) rfl))) rfl rfl rfl (by decide +kernel) ⟨Nat.le_of_ble_eq_true rfl, Nat.le_of_ble_eq_true rfl⟩) ⟨fun a U g mk q => ⟨q.1, mU_bl q.2⟩, (mU_rv hm), fun U hU hW => ⟨rfl, mU_mv hm hU hW⟩⟩ rfl rfl hl.1 rfl (lv_room (Nat.le_of_ble_eq_true rfl)) dX7_times_141 ⟨Nat.zero_le _, Nat.zero_le _⟩)) (fun r_141 hr_141 => ?_)
                subst hr_141
                refine lv_topl (fun v7_2 e_v7_2 => ?_)
                have hf : f_X7_times k x1 x2 = (f_X7_times_11 k x1 x2 w_1 v7_2 (f_X7_mantissa k x2)) := hf.trans (congrArg (fun z => (f_X7_times_11 k x1 x2 w_1 z (f_X7_mantissa k x2))) e_v7_2.symm)
                refine lv_lstore (lv' := [(7, .long v7_2), (6, .int w_1), (0, .ref o), (1, .int (nI k)), (2, .long x1), (4, .long x2)]) hx hb dX7_times_144 hl (by decide) rfl (fun ls hl => ?_)
                refine lv_aload_n hx hb dX7_times_146 rfl (lv_at hl 2 rfl) ?_
                refine lv_iload_n hx hb dX7_times_147 rfl (lv_at hl 3 rfl) ?_
                refine lv_lload hx hb dX7_times_148 (lv_at hl 5 rfl) ?_
                refine vp_callSl (va_Run.run (va_runV (As := [.int (nI k), .long x2]) (rest := []) ⟨hx, hb, hml, hown, hts⟩ (c_X7_mantissa l o r k h_k x2 (kpos h_k hc2 c_16 c_126)) (cwV 2 hts (gV iX7_mantissa (zin__r13 (.methodLink RX7 119 yX7_mantissa) (List.mem_of_getElem? (i := 3) rfl))) rfl rfl rfl (by decide +kernel) ⟨Nat.le_of_ble_eq_true rfl, Nat.le_of_ble_eq_true rfl⟩) ⟨fun a U g mk q => ⟨q.1, mU_bl q.2⟩, (mU_rv hm), fun U hU hW => ⟨rfl, mU_mv hm hU hW⟩⟩ rfl rfl hl.1 rfl (lv_room (Nat.le_of_ble_eq_true rfl)) dX7_times_150 ⟨Nat.zero_le _, Nat.zero_le _⟩)) (fun r_150 hr_150 => ?_)
                subst hr_150
                refine lv_topl (fun v9_3 e_v9_3 => ?_)
                have hf : f_X7_times k x1 x2 = (f_X7_times_11 k x1 x2 w_1 v7_2 v9_3) := hf.trans (congrArg (fun z => (f_X7_times_11 k x1 x2 w_1 v7_2 z)) e_v9_3.symm)
                refine lv_lstore (lv' := [(9, .long v9_3), (7, .long v7_2), (6, .int w_1), (0, .ref o), (1, .int (nI k)), (2, .long x1), (4, .long x2)]) hx hb dX7_times_153 hl (by decide) rfl (fun ls hl => ?_)
                refine lv_aload_n hx hb dX7_times_155 rfl (lv_at hl 3 rfl) ?_
                refine lv_iload_n hx hb dX7_times_156 rfl (lv_at hl 4 rfl) ?_
                refine lv_lload_n hx hb dX7_times_157 rfl (lv_at hl 5 rfl) ?_
                refine vp_callSi (va_Run.run (va_runV (As := [.int (nI k), .long x1]) (rest := []) ⟨hx, hb, hml, hown, hts⟩ (c_X7_power l o r k h_k x1 (kpos h_k hc1 c_6 c_116)) (cwV 2 hts (gV iX7_power (zin__r12 (.methodLink RX7 122 yX7_power) (List.mem_of_getElem? (i := 23) rfl))) rfl rfl rfl (by decide +kernel) ⟨Nat.le_of_ble_eq_true rfl, Nat.le_of_ble_eq_true rfl⟩) ⟨fun a U g mk q => ⟨q.1, mU_bl q.2⟩, (mU_rv hm), fun U hU hW => ⟨rfl, mU_mv hm hU hW⟩⟩ rfl rfl hl.1 rfl (lv_room (Nat.le_of_ble_eq_true rfl)) dX7_times_158 ⟨Nat.zero_le _, Nat.zero_le _⟩)) (fun r_158 hr_158 => ?_)
                subst hr_158
                refine lv_aload_n hx hb dX7_times_161 rfl (lv_at hl 3 rfl) ?_
                refine lv_iload_n hx hb dX7_times_162 rfl (lv_at hl 4 rfl) ?_
                refine lv_lload hx hb dX7_times_163 (lv_at hl 6 rfl) ?_
                refine vp_callSi (va_Run.run (va_runV (As := [.int (nI k), .long x2]) (rest := [.int (f_X7_power k x1)]) ⟨hx, hb, hml, hown, hts⟩ (c_X7_power l o r k h_k x2 (kpos h_k hc2 c_16 c_126)) (cwV 2 hts (gV iX7_power (zin__r12 (.methodLink RX7 122 yX7_power) (List.mem_of_getElem? (i := 23) rfl))) rfl rfl rfl (by decide +kernel) ⟨Nat.le_of_ble_eq_true rfl, Nat.le_of_ble_eq_true rfl⟩) ⟨fun a U g mk q => ⟨q.1, mU_bl q.2⟩, (mU_rv hm), fun U hU hW => ⟨rfl, mU_mv hm hU hW⟩⟩ rfl rfl hl.1 rfl (lv_room (Nat.le_of_ble_eq_true rfl)) dX7_times_165 ⟨Nat.zero_le _, Nat.zero_le _⟩)) (fun r_165 hr_165 => ?_)
                subst hr_165
                refine lv_iadd hx hb dX7_times_168 ?_
                refine lv_topi (fun v11_4 e_v11_4 => ?_)
                have hf : f_X7_times k x1 x2 = (f_X7_times_10 k w_1 v7_2 v9_3 v11_4 ((v7_2 &&& (134217727 : Int64)) * (v9_3 &&& (134217727 : Int64)))) := hf.trans (congrArg (fun z => (f_X7_times_10 k w_1 v7_2 v9_3 z ((v7_2 &&& (134217727 : Int64)) * (v9_3 &&& (134217727 : Int64))))) e_v11_4.symm)
                refine lv_istore (lv' := [(11, .int v11_4), (9, .long v9_3), (7, .long v7_2), (6, .int w_1), (0, .ref o), (1, .int (nI k)), (2, .long x1), (4, .long x2)]) hx hb dX7_times_169 hl (by decide) rfl (fun ls hl => ?_)
                refine lv_lload hx hb dX7_times_171 (lv_at hl 2 rfl) ?_
                refine lv_ldc2 (v := 134217727) hx hb hown (hts _ (zin__r21 (.constantLong RX7 129 (134217727)) (List.mem_of_getElem? (i := 18) rfl))) dX7_times_173 ?_
                refine lv_land hx hb dX7_times_176 ?_
                refine lv_lload hx hb dX7_times_177 (lv_at hl 1 rfl) ?_
                refine lv_ldc2 (v := 134217727) hx hb hown (hts _ (zin__r21 (.constantLong RX7 129 (134217727)) (List.mem_of_getElem? (i := 18) rfl))) dX7_times_179 ?_
                refine lv_land hx hb dX7_times_182 ?_
                refine lv_lmul hx hb dX7_times_183 ?_
                refine lv_topl (fun v12_5 e_v12_5 => ?_)
                have hf : f_X7_times k x1 x2 = (f_X7_times_10 k w_1 v7_2 v9_3 v11_4 v12_5) := hf.trans (congrArg (fun z => (f_X7_times_10 k w_1 v7_2 v9_3 v11_4 z)) e_v12_5.symm)
                refine lv_lstore (lv' := [(12, .long v12_5), (11, .int v11_4), (9, .long v9_3), (7, .long v7_2), (6, .int w_1), (0, .ref o), (1, .int (nI k)), (2, .long x1), (4, .long x2)]) hx hb dX7_times_184 hl (by decide) rfl (fun ls hl => ?_)
                refine lv_lload hx hb dX7_times_186 (lv_at hl 3 rfl) ?_
                refine lv_bipush (v := 27) hx hb dX7_times_188 (by decide) ?_
                refine lv_lshr (v := (jlshr v7_2 (27 : Int32))) hx hb dX7_times_190 rfl ?_
                refine lv_lload hx hb dX7_times_191 (lv_at hl 2 rfl) ?_
                refine lv_ldc2 (v := 134217727) hx hb hown (hts _ (zin__r21 (.constantLong RX7 129 (134217727)) (List.mem_of_getElem? (i := 18) rfl))) dX7_times_193 ?_
                refine lv_land hx hb dX7_times_196 ?_
                refine lv_lmul hx hb dX7_times_197 ?_
                refine lv_lload hx hb dX7_times_198 (lv_at hl 3 rfl) ?_
                refine lv_ldc2 (v := 134217727) hx hb hown (hts _ (zin__r21 (.constantLong RX7 129 (134217727)) (List.mem_of_getElem? (i := 18) rfl))) dX7_times_200 ?_
                refine lv_land hx hb dX7_times_203 ?_
                refine lv_lload hx hb dX7_times_204 (lv_at hl 2 rfl) ?_
                refine lv_bipush (v := 27) hx hb dX7_times_206 (by decide) ?_
                refine lv_lshr (v := (jlshr v9_3 (27 : Int32))) hx hb dX7_times_208 rfl ?_
                refine lv_lmul hx hb dX7_times_209 ?_
                refine lv_ladd hx hb dX7_times_210 ?_
                refine lv_lload hx hb dX7_times_211 (lv_at hl 0 rfl) ?_
                refine lv_bipush (v := 27) hx hb dX7_times_213 (by decide) ?_
                refine lv_lshr (v := (jlshr v12_5 (27 : Int32))) hx hb dX7_times_215 rfl ?_
                refine lv_ladd hx hb dX7_times_216 ?_
                refine lv_topl (fun v14_6 e_v14_6 => ?_)
                have hf : f_X7_times k x1 x2 = (f_X7_times_9 k w_1 v7_2 v9_3 v11_4 v12_5 v14_6) := hf.trans (congrArg (fun z => (f_X7_times_9 k w_1 v7_2 v9_3 v11_4 v12_5 z)) e_v14_6.symm)
                refine lv_lstore (lv' := [(14, .long v14_6), (12, .long v12_5), (11, .int v11_4), (9, .long v9_3), (7, .long v7_2), (6, .int w_1), (0, .ref o), (1, .int (nI k)), (2, .long x1), (4, .long x2)]) hx hb dX7_times_217 hl (by decide) rfl (fun ls hl => ?_)
                refine lv_lload hx hb dX7_times_219 (lv_at hl 4 rfl) ?_
                refine lv_bipush (v := 27) hx hb dX7_times_221 (by decide) ?_
                refine lv_lshr (v := (jlshr v7_2 (27 : Int32))) hx hb dX7_times_223 rfl ?_
                refine lv_lload hx hb dX7_times_224 (lv_at hl 3 rfl) ?_
                refine lv_bipush (v := 27) hx hb dX7_times_226 (by decide) ?_
                refine lv_lshr (v := (jlshr v9_3 (27 : Int32))) hx hb dX7_times_228 rfl ?_
                refine lv_lmul hx hb dX7_times_229 ?_
                refine lv_lload hx hb dX7_times_230 (lv_at hl 0 rfl) ?_
                refine lv_bipush (v := 27) hx hb dX7_times_232 (by decide) ?_
                refine lv_lshr (v := (jlshr v14_6 (27 : Int32))) hx hb dX7_times_234 rfl ?_
                refine lv_ladd hx hb dX7_times_235 ?_
                refine lv_topl (fun v16_7 e_v16_7 => ?_)
                have hf : f_X7_times k x1 x2 = (f_X7_times_8 k w_1 v11_4 v16_7 ((jlshl (v14_6 &&& (134217727 : Int64)) (27 : Int32)) ||| (v12_5 &&& (134217727 : Int64)))) := hf.trans (congrArg (fun z => (f_X7_times_8 k w_1 v11_4 z ((jlshl (v14_6 &&& (134217727 : Int64)) (27 : Int32)) ||| (v12_5 &&& (134217727 : Int64))))) e_v16_7.symm)
                refine lv_lstore (lv' := [(16, .long v16_7), (14, .long v14_6), (12, .long v12_5), (11, .int v11_4), (9, .long v9_3), (7, .long v7_2), (6, .int w_1), (0, .ref o), (1, .int (nI k)), (2, .long x1), (4, .long x2)]) hx hb dX7_times_236 hl (by decide) rfl (fun ls hl => ?_)
                refine lv_lload hx hb dX7_times_238 (lv_at hl 1 rfl) ?_
                refine lv_ldc2 (v := 134217727) hx hb hown (hts _ (zin__r21 (.constantLong RX7 129 (134217727)) (List.mem_of_getElem? (i := 18) rfl))) dX7_times_240 ?_
                refine lv_land hx hb dX7_times_243 ?_
                refine lv_bipush (v := 27) hx hb dX7_times_244 (by decide) ?_
                refine lv_lshl (v := (jlshl (v14_6 &&& (134217727 : Int64)) (27 : Int32))) hx hb dX7_times_246 rfl ?_
                refine lv_lload hx hb dX7_times_247 (lv_at hl 2 rfl) ?_
                refine lv_ldc2 (v := 134217727) hx hb hown (hts _ (zin__r21 (.constantLong RX7 129 (134217727)) (List.mem_of_getElem? (i := 18) rfl))) dX7_times_249 ?_
                refine lv_land hx hb dX7_times_252 ?_
                refine lv_lor hx hb dX7_times_253 ?_
                refine lv_topl (fun v18_8 e_v18_8 => ?_)
                have hf : f_X7_times k x1 x2 = (f_X7_times_8 k w_1 v11_4 v16_7 v18_8) := hf.trans (congrArg (fun z => (f_X7_times_8 k w_1 v11_4 v16_7 z)) e_v18_8.symm)
                refine lv_lstore (lv' := [(18, .long v18_8), (16, .long v16_7), (14, .long v14_6), (12, .long v12_5), (11, .int v11_4), (9, .long v9_3), (7, .long v7_2), (6, .int w_1), (0, .ref o), (1, .int (nI k)), (2, .long x1), (4, .long x2)]) hx hb dX7_times_254 hl (by decide) rfl (fun ls hl => ?_)
                refine lv_lload hx hb dX7_times_256 (lv_at hl 1 rfl) ?_
                refine lv_lconst (v := 0) hx hb dX7_times_258 (by decide) ?_
                refine W.lcmp hx hb dX7_times_259 ?_
                refine lv_if_ne (tgt := 276) hx hb dX7_times_260 (by decide) (fun c_260 => ?_) (fun c_260 => ?_)
                · have c_260 : ¬ (v16_7 = (0 : Int64)) := fun h9 => c_260 ((lg_cmp_eq v16_7 (0 : Int64)).mpr h9)
                  have hf : f_X7_times k x1 x2 = (f_X7_times_7 k w_1 v11_4 v16_7 v18_8) := hf.trans (if_neg c_260)
                  refine lv_aload_n hx hb dX7_times_276 rfl (lv_at hl 8 rfl) ?_
                  refine lv_iload_n hx hb dX7_times_277 rfl (lv_at hl 9 rfl) ?_
                  refine lv_iload hx hb dX7_times_278 (lv_at hl 7 rfl) ?_
                  refine lv_lload hx hb dX7_times_280 (lv_at hl 1 rfl) ?_
                  refine lv_bipush (v := 9) hx hb dX7_times_282 (by decide) ?_
                  refine lv_lshl (v := (jlshl v16_7 (9 : Int32))) hx hb dX7_times_284 rfl ?_
                  refine lv_lload hx hb dX7_times_285 (lv_at hl 0 rfl) ?_
                  refine lv_bipush (v := 45) hx hb dX7_times_287 (by decide) ?_
                  refine lv_lshr (v := (jlshr v18_8 (45 : Int32))) hx hb dX7_times_289 rfl ?_
                  refine lv_lor hx hb dX7_times_290 ?_
                  refine lv_iload hx hb dX7_times_291 (lv_at hl 4 rfl) ?_
                  refine lv_bipush (v := 45) hx hb dX7_times_293 (by decide) ?_
                  refine lv_iadd hx hb dX7_times_295 ?_
                  refine lv_lload hx hb dX7_times_296 (lv_at hl 0 rfl) ?_
                  refine lv_ldc2 (v := 35184372088831) hx hb hown (hts _ (zin__r21 (.constantLong RX7 131 (35184372088831)) (List.mem_of_getElem? (i := 19) rfl))) dX7_times_298 ?_
                  refine lv_land hx hb dX7_times_301 ?_
                  refine lv_lconst (v := 0) hx hb dX7_times_302 (by decide) ?_
                  refine W.lcmp hx hb dX7_times_303 ?_
                  refine W_cut (α := Int32) (pcJ := 312) (nL := 20) (fun v => f_X7_times k x1 x2 = (f_X7_times_6 k w_1 v11_4 v16_7 v18_8 v)) (fun v => [.int v, .int (v11_4 + (45 : Int32)), .long ((jlshl v16_7 (9 : Int32)) ||| (jlshr v18_8 (45 : Int32))), .int w_1, .int (nI k), .ref o]) (fun v => []) (fun w_9 ls hf hl => ?_) (fun K_312 => ?_)
                  · have hf : f_X7_times k x1 x2 = (f_X7_round k w_1 ((jlshl v16_7 (9 : Int32)) ||| (jlshr v18_8 (45 : Int32))) (v11_4 + (45 : Int32)) w_9) := hf
                    have hl : lv_has ls 20 [] := hl
                    refine vp_callSl (va_Run.run (va_runV (As := [.int (nI k), .int w_1, .long ((jlshl v16_7 (9 : Int32)) ||| (jlshr v18_8 (45 : Int32))), .int (v11_4 + (45 : Int32)), .int w_9]) (rest := []) ⟨hx, hb, hml, hown, hts⟩ (c_X7_round l o r k h_k w_1 ((jlshl v16_7 (9 : Int32)) ||| (jlshr v18_8 (45 : Int32))) (v11_4 + (45 : Int32)) w_9) (cwV 5 hts (gV iX7_round (zin__r10 (.methodLink RX7 125 yX7_round) (List.mem_of_getElem? (i := 1) rfl))) rfl rfl rfl (by decide +kernel) ⟨Nat.le_of_ble_eq_true rfl, Nat.le_of_ble_eq_true rfl⟩) ⟨fun a U g mk q => ⟨q.1, mU_bl q.2⟩, (mU_rv hm), fun U hU hW => ⟨rfl, mU_mv hm hU hW⟩⟩ rfl rfl hl.1 rfl (lv_room (Nat.le_of_ble_eq_true rfl)) dX7_times_312 ⟨Nat.zero_le _, Nat.zero_le _⟩)) (fun r_312 hr_312 => ?_)
                    subst hr_312
                    exact W.lret hx hb hr (fun t ht hW => ⟨_, rfl, hf.symm, ht⟩) (fun q hq => absurd hq List.not_mem_nil) dX7_times_315
                  refine lv_if_eq (tgt := 311) hx hb dX7_times_304 (by decide) (fun c_304 => ?_) (fun c_304 => ?_)
                  · have c_304 : (v18_8 &&& (35184372088831 : Int64)) = (0 : Int64) := (lg_cmp_eq (v18_8 &&& (35184372088831 : Int64)) (0 : Int64)).mp c_304
                    have hf : f_X7_times k x1 x2 = (f_X7_times_6 k w_1 v11_4 v16_7 v18_8 (0 : Int32)) := hf.trans (if_pos c_304)
                    refine lv_iconst (v := 0) hx hb dX7_times_311 (by decide) ?_
                    exact K_312 (0 : Int32) ls hf (lv_sub hl [] rfl)
                  · have c_304 : ¬ ((v18_8 &&& (35184372088831 : Int64)) = (0 : Int64)) := fun h9 => c_304 ((lg_cmp_eq (v18_8 &&& (35184372088831 : Int64)) (0 : Int64)).mpr h9)
                    have hf : f_X7_times k x1 x2 = (f_X7_times_6 k w_1 v11_4 v16_7 v18_8 (1 : Int32)) := hf.trans (if_neg c_304)
                    refine lv_iconst (v := 1) hx hb dX7_times_307 (by decide) ?_
                    refine lv_goto (tgt := 312) hx hb dX7_times_308 (by decide) ?_
                    exact K_312 (1 : Int32) ls hf (lv_sub hl [] rfl)
                · have c_260 : v16_7 = (0 : Int64) := (lg_cmp_eq v16_7 (0 : Int64)).mp c_260
                  have hf : f_X7_times k x1 x2 = (f_X7_round k w_1 v18_8 v11_4 (0 : Int32)) := hf.trans (if_pos c_260)
                  refine lv_aload_n hx hb dX7_times_263 rfl (lv_at hl 8 rfl) ?_
                  refine lv_iload_n hx hb dX7_times_264 rfl (lv_at hl 9 rfl) ?_
                  refine lv_iload hx hb dX7_times_265 (lv_at hl 7 rfl) ?_
                  refine lv_lload hx hb dX7_times_267 (lv_at hl 0 rfl) ?_
                  refine lv_iload hx hb dX7_times_269 (lv_at hl 4 rfl) ?_
                  refine lv_iconst (v := 0) hx hb dX7_times_271 (by decide) ?_
                  refine vp_callSl (va_Run.run (va_runV (As := [.int (nI k), .int w_1, .long v18_8, .int v11_4, .int (0 : Int32)]) (rest := []) ⟨hx, hb, hml, hown, hts⟩ (c_X7_round l o r k h_k w_1 v18_8 v11_4 (0 : Int32)) (cwV 5 hts (gV iX7_round (zin__r10 (.methodLink RX7 125 yX7_round) (List.mem_of_getElem? (i := 1) rfl))) rfl rfl rfl (by decide +kernel) ⟨Nat.le_of_ble_eq_true rfl, Nat.le_of_ble_eq_true rfl⟩) ⟨fun a U g mk q => ⟨q.1, mU_bl q.2⟩, (mU_rv hm), fun U hU hW => ⟨rfl, mU_mv hm hU hW⟩⟩ rfl rfl hl.1 rfl (lv_room (Nat.le_of_ble_eq_true rfl)) dX7_times_272 ⟨Nat.zero_le _, Nat.zero_le _⟩)) (fun r_272 hr_272 => ?_)
                  subst hr_272
                  exact W.lret hx hb hr (fun t ht hW => ⟨_, rfl, hf.symm, ht⟩) (fun q hq => absurd hq List.not_mem_nil) dX7_times_275
              · have hf : f_X7_times k x1 x2 = (f_X7_times_5 k w_1) := hf.trans (if_neg c_126)
                exact K_129 () ls hf (lv_sub hl [1, 2, 0] rfl)
          · have hf : f_X7_times k x1 x2 = (f_X7_times_4 k x1 x2 w_1) := hf.trans (if_neg c_65)
            exact K_68 () ls hf (lv_sub hl [1, 2, 3, 4, 0] rfl)
      refine lv_icmp_eq (tgt := 46) hx hb dX7_times_39 (by decide) (fun c_39 => ?_) (fun c_39 => ?_)
      · have hf : f_X7_times k x1 x2 = (f_X7_times_15 k x1 x2 (0 : Int32)) := hf.trans (if_pos c_39)
        refine lv_iconst (v := 0) hx hb dX7_times_46 (by decide) ?_
        exact K_47 (0 : Int32) ls hf (lv_sub hl [0, 1, 2, 3] rfl)
      · have hf : f_X7_times k x1 x2 = (f_X7_times_15 k x1 x2 (1 : Int32)) := hf.trans (if_neg c_39)
        refine lv_iconst (v := 1) hx hb dX7_times_42 (by decide) ?_
        refine lv_goto (tgt := 47) hx hb dX7_times_43 (by decide) ?_
        exact K_47 (1 : Int32) ls hf (lv_sub hl [0, 1, 2, 3] rfl)
    · have hf : f_X7_times k x1 x2 = (f_X7_times_1 k) := hf.trans (if_neg c_16)
      exact K_19 () ls hf (lv_sub hl [0, 1] rfl)
def f_X7_over_1 (k : Nat) : Int64 := (knan k)
def f_X7_over_2 (k : Nat) (x1 : Int64) (x2 : Int64) (w_1 : Int32) (q11 : Int64) (w_4 : Int32) : Int64 := (f_X7_round k w_1 q11 (((f_X7_power k x1) - (f_X7_power k x2)) - (57 : Int32)) w_4)
def f_X7_over_3 (k : Nat) (x1 : Int64) (x2 : Int64) (w_1 : Int32) (q9 : Int64) (q11 : Int64) : Int64 := if q9 ≤ (0 : Int64) then (f_X7_over_2 k x1 x2 w_1 q11 (0 : Int32)) else (f_X7_over_2 k x1 x2 w_1 q11 (1 : Int32))
def f_X7_over_4 (q13 : Int32) (rec_193 : Int64 → Int64 → Int32 → Int64) (v9_6 : Int64) (v11_7 : Int64) : Int64 := (rec_193 (jlshl v9_6 (1 : Int32)) v11_7 (q13 + (1 : Int32)))
def f_X7_over_5 (v7_2 : Int64) (q9 : Int64) (q13 : Int32) (rec_193 : Int64 → Int64 → Int32 → Int64) (v11_5 : Int64) : Int64 := if q9 < v7_2 then (f_X7_over_4 q13 rec_193 q9 v11_5) else (f_X7_over_4 q13 rec_193 (q9 - v7_2) (v11_5 + (1 : Int64)))
def f_X7_over_6 (k : Nat) (x1 : Int64) (x2 : Int64) (w_1 : Int32) (v7_2 : Int64) (q9 : Int64) (q11 : Int64) (q13 : Int32) (rec_193 : Int64 → Int64 → Int32 → Int64) : Int64 := if (58 : Int32) ≤ q13 then (f_X7_over_3 k x1 x2 w_1 q9 q11) else (f_X7_over_5 v7_2 q9 q13 rec_193 (jlshl q11 (1 : Int32)))
def f_X7_over_L193 (k : Nat) (x1 : Int64) (x2 : Int64) (w_1 : Int32) (v7_2 : Int64) : Nat → Int64 → Int64 → Int32 → Int64
  | 0, _, _, _ => 0
  | n + 1, q9, q11, q13 => (f_X7_over_6 k x1 x2 w_1 v7_2 q9 q11 q13 (f_X7_over_L193 k x1 x2 w_1 v7_2 n))
def f_X7_over_8 (k : Nat) (x1 : Int64) (x2 : Int64) (w_1 : Int32) : Int64 := if (f_X7_zero k x1) = 0 then (f_X7_over_L193 k x1 x2 w_1 (f_X7_mantissa k x2) 59 (f_X7_mantissa k x1) (0 : Int64) (0 : Int32)) else (f_X7_signed k (0 : Int64) w_1)
def f_X7_over_9 (k : Nat) (x1 : Int64) (w_1 : Int32) : Int64 := if (f_X7_zero k x1) = 0 then (f_X7_signed k (kinf k) w_1) else (knan k)
def f_X7_over_10 (k : Nat) (x1 : Int64) (x2 : Int64) (w_1 : Int32) : Int64 := if (f_X7_zero k x2) = 0 then (f_X7_over_8 k x1 x2 w_1) else (f_X7_over_9 k x1 w_1)
def f_X7_over_11 (k : Nat) (x1 : Int64) (x2 : Int64) (w_1 : Int32) : Int64 := if (f_X7_infinite k x2) = 0 then (f_X7_over_10 k x1 x2 w_1) else (f_X7_signed k (0 : Int64) w_1)
def f_X7_over_12 (k : Nat) (x2 : Int64) (w_1 : Int32) : Int64 := if (f_X7_infinite k x2) = 0 then (f_X7_signed k (kinf k) w_1) else (knan k)
def f_X7_over_13 (k : Nat) (x1 : Int64) (x2 : Int64) (w_1 : Int32) : Int64 := if (f_X7_infinite k x1) = 0 then (f_X7_over_11 k x1 x2 w_1) else (f_X7_over_12 k x2 w_1)
def f_X7_over_14 (k : Nat) (x1 : Int64) (x2 : Int64) : Int64 := if (f_X7_minus k x1) = (f_X7_minus k x2) then (f_X7_over_13 k x1 x2 (0 : Int32)) else (f_X7_over_13 k x1 x2 (1 : Int32))
def f_X7_over_15 (k : Nat) (x1 : Int64) (x2 : Int64) : Int64 := if (f_X7_none k x2) = 0 then (f_X7_over_14 k x1 x2) else (f_X7_over_1 k)
def f_X7_over_16 (k : Nat) (x1 : Int64) (x2 : Int64) : Int64 := if (f_X7_none k x1) = 0 then (f_X7_over_15 k x1 x2) else (f_X7_over_1 k)
def f_X7_over (k : Nat) (x1 : Int64) (x2 : Int64) : Int64 := (f_X7_over_16 k x1 x2)
def zX7_over : List Cond := .code yX7_over cX7_over 14 (some .long) :: zall
theorem iX7_over : MWv RX7 yX7_over (.code yX7_over cX7_over 14 (some .long)) := ⟨(zin__r21 (.instanceMethod yX7_over) (List.mem_of_getElem? (i := 21) rfl)), (zin__r21 (.selects RX7 yX7_over yX7_over) (List.mem_of_getElem? (i := 22) rfl)), (zin__r1 (.initialized RX7) (List.mem_of_getElem? (i := 5) rfl)), (zin__r21 (.code yX7_over cX7_over 14 (some .long)) (List.mem_of_getElem? (i := 23) rfl))⟩
set_option maxHeartbeats 4000000 in
set_option maxRecDepth 100000 in
theorem c_X7_over (l : Launch) (o : Nat) (r : Nat → Nat) (k : Nat) (h_k : k < 2) (x1 : Int64) (x2 : Int64) (hc1 : kcn k x1) (hc2 : kcn k x2) : Met l yX7_over zX7_over ({ frames := 2, cells := 0, slots := 0, locals := 59 }) (va_Pc [.ref o, .int (nI k), .long x1, .long x2] (fun U => mU o r U)) (vp_Sl (fun r => r = f_X7_over k x1 x2)) 0 0 (fun _ => False) := by
  refine Met.ofW (cc := cX7_over) (maxL := 14) (ret := (some .long)) (by decide) rfl ?_
  intro p e s m args below meth c s₁ B hml hv
  obtain ⟨rfl, hm⟩ := hv
  have hx := B.exec
  have hb := B.bytes
  have hr := B.returns
  have hts : ∀ w ∈ zall, w.before _ s = true := fun w h => atoms_spec (ws := zX7_over) B.pre w (List.mem_cons_of_mem _ h)
  have hown : s.vm.findClass RX7 = some m.cls := findClass_of_methodNamed B.named
  have hlocks := B.notSynchronized
  have hl := lv_entry ([.ref o, .int (nI k), .long x1, .long x2]) (n := 14) (Nat.le_of_ble_eq_true rfl)
  rw [lg_entry_eq]
  generalize (lg_sl ([.ref o, .int (nI k), .long x1, .long x2]) ++ List.replicate (14 - (lg_sl ([.ref o, .int (nI k), .long x1, .long x2])).length) Slot.unset).toArray = ls at hl ⊢
  have hl : lv_has ls 14 [(0, .ref o), (1, .int (nI k)), (2, .long x1), (4, .long x2)] := hl
  have hf : f_X7_over k x1 x2 = (f_X7_over_16 k x1 x2) := rfl
  refine lv_aload_n hx hb dX7_over_0 rfl (lv_at hl 0 rfl) ?_
  refine lv_iload_n hx hb dX7_over_1 rfl (lv_at hl 1 rfl) ?_
  refine lv_lload_n hx hb dX7_over_2 rfl (lv_at hl 2 rfl) ?_
  refine vp_callSi (va_Run.run (va_runV (As := [.int (nI k), .long x1]) (rest := []) ⟨hx, hb, hml, hown, hts⟩ (c_X7_none l o r k h_k x1) (cwV 2 hts (gV iX7_none (zin__r7 (.methodLink RX7 98 yX7_none) (List.mem_of_getElem? (i := 17) rfl))) rfl rfl rfl (by decide +kernel) ⟨Nat.le_of_ble_eq_true rfl, Nat.le_of_ble_eq_true rfl⟩) ⟨fun a U g mk q => ⟨q.1, mU_bl q.2⟩, (mU_rv hm), fun U hU hW => ⟨rfl, mU_mv hm hU hW⟩⟩ rfl rfl hl.1 rfl (lv_room (Nat.le_of_ble_eq_true rfl)) dX7_over_3 ⟨Nat.zero_le _, Nat.zero_le _⟩)) (fun r_3 hr_3 => ?_)
  subst hr_3
  refine W_cut (α := Unit) (pcJ := 19) (nL := 14) (fun v => f_X7_over k x1 x2 = (f_X7_over_1 k)) (fun v => []) (fun v => [(0, .ref o), (1, .int (nI k))]) (fun v ls hf hl => ?_) (fun K_19 => ?_)
  · have hf : f_X7_over k x1 x2 = (knan k) := hf
    have hl : lv_has ls 14 [(0, .ref o), (1, .int (nI k))] := hl
    refine lv_aload_n hx hb dX7_over_19 rfl (lv_at hl 0 rfl) ?_
    refine vk_getf hx hb (mE_NONE hm) va_S.rf hown (hts _ (zin__r2 (.fieldLink RX7 38 "ReckonBenchModel" "NONE" "[J") (List.mem_of_getElem? (i := 21) rfl))) (fun _ h9 => h9) dX7_over_20 ?_
    refine lv_iload_n hx hb dX7_over_23 rfl (lv_at hl 1 rfl) ?_
    refine va_tl hx hb (mT_NONE hm) va_S.rf (kin h_k) (v := .long (knan k)) (kev (fun j => Value.long (knan j)) h_k) dX7_over_24 ?_
    exact W.lret hx hb hr (fun t ht hW => ⟨_, rfl, hf.symm, ht⟩) (fun q hq => absurd hq List.not_mem_nil) dX7_over_25
  refine lv_if_ne (tgt := 19) hx hb dX7_over_6 (by decide) (fun c_6 => ?_) (fun c_6 => ?_)
  · have hf : f_X7_over k x1 x2 = (f_X7_over_1 k) := hf.trans (if_neg c_6)
    exact K_19 () ls hf (lv_sub hl [0, 1] rfl)
  · have hf : f_X7_over k x1 x2 = (f_X7_over_15 k x1 x2) := hf.trans (if_pos c_6)
    refine lv_aload_n hx hb dX7_over_9 rfl (lv_at hl 0 rfl) ?_
    refine lv_iload_n hx hb dX7_over_10 rfl (lv_at hl 1 rfl) ?_
    refine lv_lload hx hb dX7_over_11 (lv_at hl 3 rfl) ?_
    refine vp_callSi (va_Run.run (va_runV (As := [.int (nI k), .long x2]) (rest := []) ⟨hx, hb, hml, hown, hts⟩ (c_X7_none l o r k h_k x2) (cwV 2 hts (gV iX7_none (zin__r7 (.methodLink RX7 98 yX7_none) (List.mem_of_getElem? (i := 17) rfl))) rfl rfl rfl (by decide +kernel) ⟨Nat.le_of_ble_eq_true rfl, Nat.le_of_ble_eq_true rfl⟩) ⟨fun a U g mk q => ⟨q.1, mU_bl q.2⟩, (mU_rv hm), fun U hU hW => ⟨rfl, mU_mv hm hU hW⟩⟩ rfl rfl hl.1 rfl (lv_room (Nat.le_of_ble_eq_true rfl)) dX7_over_13 ⟨Nat.zero_le _, Nat.zero_le _⟩)) (fun r_13 hr_13 => ?_)
    subst hr_13
    refine lv_if_eq (tgt := 26) hx hb dX7_over_16 (by decide) (fun c_16 => ?_) (fun c_16 => ?_)
    · have hf : f_X7_over k x1 x2 = (f_X7_over_14 k x1 x2) := hf.trans (if_pos c_16)
      refine lv_aload_n hx hb dX7_over_26 rfl (lv_at hl 0 rfl) ?_
      refine lv_iload_n hx hb dX7_over_27 rfl (lv_at hl 1 rfl) ?_
      refine lv_lload_n hx hb dX7_over_28 rfl (lv_at hl 2 rfl) ?_
      refine vp_callSi (va_Run.run (va_runV (As := [.int (nI k), .long x1]) (rest := []) ⟨hx, hb, hml, hown, hts⟩ (c_X7_minus l o r k h_k x1) (cwV 2 hts (gV iX7_minus (zin__r8 (.methodLink RX7 108 yX7_minus) (List.mem_of_getElem? (i := 5) rfl))) rfl rfl rfl (by decide +kernel) ⟨Nat.le_of_ble_eq_true rfl, Nat.le_of_ble_eq_true rfl⟩) ⟨fun a U g mk q => ⟨q.1, mU_bl q.2⟩, (mU_rv hm), fun U hU hW => ⟨rfl, mU_mv hm hU hW⟩⟩ rfl rfl hl.1 rfl (lv_room (Nat.le_of_ble_eq_true rfl)) dX7_over_29 ⟨Nat.zero_le _, Nat.zero_le _⟩)) (fun r_29 hr_29 => ?_)
      subst hr_29
      refine lv_aload_n hx hb dX7_over_32 rfl (lv_at hl 0 rfl) ?_
      refine lv_iload_n hx hb dX7_over_33 rfl (lv_at hl 1 rfl) ?_
      refine lv_lload hx hb dX7_over_34 (lv_at hl 3 rfl) ?_
      refine vp_callSi (va_Run.run (va_runV (As := [.int (nI k), .long x2]) (rest := [.int (f_X7_minus k x1)]) ⟨hx, hb, hml, hown, hts⟩ (c_X7_minus l o r k h_k x2) (cwV 2 hts (gV iX7_minus (zin__r8 (.methodLink RX7 108 yX7_minus) (List.mem_of_getElem? (i := 5) rfl))) rfl rfl rfl (by decide +kernel) ⟨Nat.le_of_ble_eq_true rfl, Nat.le_of_ble_eq_true rfl⟩) ⟨fun a U g mk q => ⟨q.1, mU_bl q.2⟩, (mU_rv hm), fun U hU hW => ⟨rfl, mU_mv hm hU hW⟩⟩ rfl rfl hl.1 rfl (lv_room (Nat.le_of_ble_eq_true rfl)) dX7_over_36 ⟨Nat.zero_le _, Nat.zero_le _⟩)) (fun r_36 hr_36 => ?_)
      subst hr_36
      refine W_cut (α := Int32) (pcJ := 47) (nL := 14) (fun v => f_X7_over k x1 x2 = (f_X7_over_13 k x1 x2 v)) (fun v => [.int v]) (fun v => [(0, .ref o), (1, .int (nI k)), (2, .long x1), (4, .long x2)]) (fun w_1 ls hf hl => ?_) (fun K_47 => ?_)
      · have hf : f_X7_over k x1 x2 = (f_X7_over_13 k x1 x2 w_1) := hf
        have hl : lv_has ls 14 [(0, .ref o), (1, .int (nI k)), (2, .long x1), (4, .long x2)] := hl
        refine lv_istore (lv' := [(6, .int w_1), (0, .ref o), (1, .int (nI k)), (2, .long x1), (4, .long x2)]) hx hb dX7_over_47 hl (by decide) rfl (fun ls hl => ?_)
        refine lv_aload_n hx hb dX7_over_49 rfl (lv_at hl 1 rfl) ?_
        refine lv_iload_n hx hb dX7_over_50 rfl (lv_at hl 2 rfl) ?_
        refine lv_lload_n hx hb dX7_over_51 rfl (lv_at hl 3 rfl) ?_
        refine vp_callSi (va_Run.run (va_runV (As := [.int (nI k), .long x1]) (rest := []) ⟨hx, hb, hml, hown, hts⟩ (c_X7_infinite l o r k h_k x1) (cwV 2 hts (gV iX7_infinite (zin__r8 (.methodLink RX7 105 yX7_infinite) (List.mem_of_getElem? (i := 1) rfl))) rfl rfl rfl (by decide +kernel) ⟨Nat.le_of_ble_eq_true rfl, Nat.le_of_ble_eq_true rfl⟩) ⟨fun a U g mk q => ⟨q.1, mU_bl q.2⟩, (mU_rv hm), fun U hU hW => ⟨rfl, mU_mv hm hU hW⟩⟩ rfl rfl hl.1 rfl (lv_room (Nat.le_of_ble_eq_true rfl)) dX7_over_52 ⟨Nat.zero_le _, Nat.zero_le _⟩)) (fun r_52 hr_52 => ?_)
        subst hr_52
        refine lv_if_eq (tgt := 91) hx hb dX7_over_55 (by decide) (fun c_55 => ?_) (fun c_55 => ?_)
        · have hf : f_X7_over k x1 x2 = (f_X7_over_11 k x1 x2 w_1) := hf.trans (if_pos c_55)
          refine lv_aload_n hx hb dX7_over_91 rfl (lv_at hl 1 rfl) ?_
          refine lv_iload_n hx hb dX7_over_92 rfl (lv_at hl 2 rfl) ?_
          refine lv_lload hx hb dX7_over_93 (lv_at hl 4 rfl) ?_
          refine vp_callSi (va_Run.run (va_runV (As := [.int (nI k), .long x2]) (rest := []) ⟨hx, hb, hml, hown, hts⟩ (c_X7_infinite l o r k h_k x2) (cwV 2 hts (gV iX7_infinite (zin__r8 (.methodLink RX7 105 yX7_infinite) (List.mem_of_getElem? (i := 1) rfl))) rfl rfl rfl (by decide +kernel) ⟨Nat.le_of_ble_eq_true rfl, Nat.le_of_ble_eq_true rfl⟩) ⟨fun a U g mk q => ⟨q.1, mU_bl q.2⟩, (mU_rv hm), fun U hU hW => ⟨rfl, mU_mv hm hU hW⟩⟩ rfl rfl hl.1 rfl (lv_room (Nat.le_of_ble_eq_true rfl)) dX7_over_95 ⟨Nat.zero_le _, Nat.zero_le _⟩)) (fun r_95 hr_95 => ?_)
          subst hr_95
          refine lv_if_eq (tgt := 110) hx hb dX7_over_98 (by decide) (fun c_98 => ?_) (fun c_98 => ?_)
          · have hf : f_X7_over k x1 x2 = (f_X7_over_10 k x1 x2 w_1) := hf.trans (if_pos c_98)
            refine lv_aload_n hx hb dX7_over_110 rfl (lv_at hl 1 rfl) ?_
            refine lv_iload_n hx hb dX7_over_111 rfl (lv_at hl 2 rfl) ?_
            refine lv_lload hx hb dX7_over_112 (lv_at hl 4 rfl) ?_
            refine vp_callSi (va_Run.run (va_runV (As := [.int (nI k), .long x2]) (rest := []) ⟨hx, hb, hml, hown, hts⟩ (c_X7_zero l o r k h_k x2) (cwV 2 hts (gV iX7_zero (zin__r7 (.methodLink RX7 102 yX7_zero) (List.mem_of_getElem? (i := 21) rfl))) rfl rfl rfl (by decide +kernel) ⟨Nat.le_of_ble_eq_true rfl, Nat.le_of_ble_eq_true rfl⟩) ⟨fun a U g mk q => ⟨q.1, mU_bl q.2⟩, (mU_rv hm), fun U hU hW => ⟨rfl, mU_mv hm hU hW⟩⟩ rfl rfl hl.1 rfl (lv_room (Nat.le_of_ble_eq_true rfl)) dX7_over_114 ⟨Nat.zero_le _, Nat.zero_le _⟩)) (fun r_114 hr_114 => ?_)
            subst hr_114
            refine lv_if_eq (tgt := 152) hx hb dX7_over_117 (by decide) (fun c_117 => ?_) (fun c_117 => ?_)
            · have hf : f_X7_over k x1 x2 = (f_X7_over_8 k x1 x2 w_1) := hf.trans (if_pos c_117)
              refine lv_aload_n hx hb dX7_over_152 rfl (lv_at hl 1 rfl) ?_
              refine lv_iload_n hx hb dX7_over_153 rfl (lv_at hl 2 rfl) ?_
              refine lv_lload_n hx hb dX7_over_154 rfl (lv_at hl 3 rfl) ?_
              refine vp_callSi (va_Run.run (va_runV (As := [.int (nI k), .long x1]) (rest := []) ⟨hx, hb, hml, hown, hts⟩ (c_X7_zero l o r k h_k x1) (cwV 2 hts (gV iX7_zero (zin__r7 (.methodLink RX7 102 yX7_zero) (List.mem_of_getElem? (i := 21) rfl))) rfl rfl rfl (by decide +kernel) ⟨Nat.le_of_ble_eq_true rfl, Nat.le_of_ble_eq_true rfl⟩) ⟨fun a U g mk q => ⟨q.1, mU_bl q.2⟩, (mU_rv hm), fun U hU hW => ⟨rfl, mU_mv hm hU hW⟩⟩ rfl rfl hl.1 rfl (lv_room (Nat.le_of_ble_eq_true rfl)) dX7_over_155 ⟨Nat.zero_le _, Nat.zero_le _⟩)) (fun r_155 hr_155 => ?_)
              subst hr_155
              refine lv_if_eq (tgt := 170) hx hb dX7_over_158 (by decide) (fun c_158 => ?_) (fun c_158 => ?_)
              · have hf : f_X7_over k x1 x2 = (f_X7_over_L193 k x1 x2 w_1 (f_X7_mantissa k x2) 59 (f_X7_mantissa k x1) (0 : Int64) (0 : Int32)) := hf.trans (if_pos c_158)
                refine lv_aload_n hx hb dX7_over_170 rfl (lv_at hl 1 rfl) ?_
                refine lv_iload_n hx hb dX7_over_171 rfl (lv_at hl 2 rfl) ?_
                refine lv_lload hx hb dX7_over_172 (lv_at hl 4 rfl) ?_
                refine vp_callSl (va_Run.run (va_runV (As := [.int (nI k), .long x2]) (rest := []) ⟨hx, hb, hml, hown, hts⟩ (c_X7_mantissa l o r k h_k x2 (kpos h_k hc2 c_16 c_117)) (cwV 2 hts (gV iX7_mantissa (zin__r13 (.methodLink RX7 119 yX7_mantissa) (List.mem_of_getElem? (i := 3) rfl))) rfl rfl rfl (by decide +kernel) ⟨Nat.le_of_ble_eq_true rfl, Nat.le_of_ble_eq_true rfl⟩) ⟨fun a U g mk q => ⟨q.1, mU_bl q.2⟩, (mU_rv hm), fun U hU hW => ⟨rfl, mU_mv hm hU hW⟩⟩ rfl rfl hl.1 rfl (lv_room (Nat.le_of_ble_eq_true rfl)) dX7_over_174 ⟨Nat.zero_le _, Nat.zero_le _⟩)) (fun r_174 hr_174 => ?_)
                subst hr_174
                refine lv_topl (fun v7_2 e_v7_2 => ?_)
                have hf : f_X7_over k x1 x2 = (f_X7_over_L193 k x1 x2 w_1 v7_2 59 (f_X7_mantissa k x1) (0 : Int64) (0 : Int32)) := hf.trans (congrArg (fun z => (f_X7_over_L193 k x1 x2 w_1 z 59 (f_X7_mantissa k x1) (0 : Int64) (0 : Int32))) e_v7_2.symm)
                refine lv_lstore (lv' := [(7, .long v7_2), (6, .int w_1), (0, .ref o), (1, .int (nI k)), (2, .long x1), (4, .long x2)]) hx hb dX7_over_177 hl (by decide) rfl (fun ls hl => ?_)
                refine lv_aload_n hx hb dX7_over_179 rfl (lv_at hl 2 rfl) ?_
                refine lv_iload_n hx hb dX7_over_180 rfl (lv_at hl 3 rfl) ?_
                refine lv_lload_n hx hb dX7_over_181 rfl (lv_at hl 4 rfl) ?_
                refine vp_callSl (va_Run.run (va_runV (As := [.int (nI k), .long x1]) (rest := []) ⟨hx, hb, hml, hown, hts⟩ (c_X7_mantissa l o r k h_k x1 (kpos h_k hc1 c_6 c_158)) (cwV 2 hts (gV iX7_mantissa (zin__r13 (.methodLink RX7 119 yX7_mantissa) (List.mem_of_getElem? (i := 3) rfl))) rfl rfl rfl (by decide +kernel) ⟨Nat.le_of_ble_eq_true rfl, Nat.le_of_ble_eq_true rfl⟩) ⟨fun a U g mk q => ⟨q.1, mU_bl q.2⟩, (mU_rv hm), fun U hU hW => ⟨rfl, mU_mv hm hU hW⟩⟩ rfl rfl hl.1 rfl (lv_room (Nat.le_of_ble_eq_true rfl)) dX7_over_182 ⟨Nat.zero_le _, Nat.zero_le _⟩)) (fun r_182 hr_182 => ?_)
                subst hr_182
                refine lv_topl (fun v9_3 e_v9_3 => ?_)
                have hf : f_X7_over k x1 x2 = (f_X7_over_L193 k x1 x2 w_1 v7_2 59 v9_3 (0 : Int64) (0 : Int32)) := hf.trans (congrArg (fun z => (f_X7_over_L193 k x1 x2 w_1 v7_2 59 z (0 : Int64) (0 : Int32))) e_v9_3.symm)
                refine lv_lstore (lv' := [(9, .long v9_3), (7, .long v7_2), (6, .int w_1), (0, .ref o), (1, .int (nI k)), (2, .long x1), (4, .long x2)]) hx hb dX7_over_185 hl (by decide) rfl (fun ls hl => ?_)
                refine lv_lconst (v := 0) hx hb dX7_over_187 (by decide) ?_
                refine lv_lstore (lv' := [(11, .long (0 : Int64)), (9, .long v9_3), (7, .long v7_2), (6, .int w_1), (0, .ref o), (1, .int (nI k)), (2, .long x1), (4, .long x2)]) hx hb dX7_over_188 hl (by decide) rfl (fun ls hl => ?_)
                refine lv_iconst (v := 0) hx hb dX7_over_190 (by decide) ?_
                refine lv_istore (lv' := [(13, .int (0 : Int32)), (11, .long (0 : Int64)), (9, .long v9_3), (7, .long v7_2), (6, .int w_1), (0, .ref o), (1, .int (nI k)), (2, .long x1), (4, .long x2)]) hx hb dX7_over_191 hl (by decide) rfl (fun ls hl => ?_)
                refine W_loop (α := Int64 × Int64 × Int32) (pcJ := 193) (nL := 14) (fun n v => f_X7_over k x1 x2 = f_X7_over_L193 k x1 x2 w_1 v7_2 n v.1 v.2.1 v.2.2 ∧ (0 ≤ v.2.2.toInt ∧ v.2.2.toInt ≤ 58 ∧ 59 ≤ v.2.2.toInt + n)) (fun v => []) (fun v => [(0, .ref o), (1, .int (nI k)), (2, .long x1), (4, .long x2), (6, .int w_1), (7, .long v7_2), (9, .long v.1), (11, .long v.2.1), (13, .int v.2.2)]) (fun v hC => ?_) (fun n_193 ih_193 v ls hC hl => ?_) 59 (v9_3, (0 : Int64), (0 : Int32)) ls ⟨hf, (cnt_init (N := 58))⟩ (lv_sub hl [5, 6, 7, 8, 4, 3, 2, 1, 0] rfl)
                · obtain ⟨q9, q11, q13⟩ := v
                  have hI : (0 ≤ q13.toInt ∧ q13.toInt ≤ 58 ∧ 59 ≤ q13.toInt + (0 : Nat)) := hC.2
                  omega
                · obtain ⟨q9, q11, q13⟩ := v
                  obtain ⟨hf, hI⟩ : (f_X7_over k x1 x2 = f_X7_over_L193 k x1 x2 w_1 v7_2 (n_193 + 1) q9 q11 q13) ∧ (0 ≤ q13.toInt ∧ q13.toInt ≤ 58 ∧ 59 ≤ q13.toInt + (Nat.succ n_193)) := hC
                  obtain ⟨rec_193, hrec_193⟩ : ∃ z, z = f_X7_over_L193 k x1 x2 w_1 v7_2 n_193 := ⟨_, rfl⟩
                  have hf : f_X7_over k x1 x2 = (f_X7_over_6 k x1 x2 w_1 v7_2 q9 q11 q13 rec_193) := by rw [hrec_193]; exact hf
                  have hl : lv_has ls 14 [(0, .ref o), (1, .int (nI k)), (2, .long x1), (4, .long x2), (6, .int w_1), (7, .long v7_2), (9, .long q9), (11, .long q11), (13, .int q13)] := hl
                  refine lv_iload hx hb dX7_over_193 (lv_at hl 8 rfl) ?_
                  refine lv_bipush (v := 58) hx hb dX7_over_195 (by decide) ?_
                  refine lv_icmp_ge (tgt := 239) hx hb dX7_over_197 (by decide) (fun c_197 => ?_) (fun c_197 => ?_)
                  · have hf : f_X7_over k x1 x2 = (f_X7_over_3 k x1 x2 w_1 q9 q11) := hf.trans (if_pos c_197)
                    refine lv_aload_n hx hb dX7_over_239 rfl (lv_at hl 0 rfl) ?_
                    refine lv_iload_n hx hb dX7_over_240 rfl (lv_at hl 1 rfl) ?_
                    refine lv_iload hx hb dX7_over_241 (lv_at hl 4 rfl) ?_
                    refine lv_lload hx hb dX7_over_243 (lv_at hl 7 rfl) ?_
                    refine lv_aload_n hx hb dX7_over_245 rfl (lv_at hl 0 rfl) ?_
                    refine lv_iload_n hx hb dX7_over_246 rfl (lv_at hl 1 rfl) ?_
                    refine lv_lload_n hx hb dX7_over_247 rfl (lv_at hl 2 rfl) ?_
                    refine vp_callSi (va_Run.run (va_runV (As := [.int (nI k), .long x1]) (rest := [.long q11, .int w_1, .int (nI k), .ref o]) ⟨hx, hb, hml, hown, hts⟩ (c_X7_power l o r k h_k x1 (kpos h_k hc1 c_6 c_158)) (cwV 2 hts (gV iX7_power (zin__r12 (.methodLink RX7 122 yX7_power) (List.mem_of_getElem? (i := 23) rfl))) rfl rfl rfl (by decide +kernel) ⟨Nat.le_of_ble_eq_true rfl, Nat.le_of_ble_eq_true rfl⟩) ⟨fun a U g mk q => ⟨q.1, mU_bl q.2⟩, (mU_rv hm), fun U hU hW => ⟨rfl, mU_mv hm hU hW⟩⟩ rfl rfl hl.1 rfl (lv_room (Nat.le_of_ble_eq_true rfl)) dX7_over_248 ⟨Nat.zero_le _, Nat.zero_le _⟩)) (fun r_248 hr_248 => ?_)
                    subst hr_248
                    refine lv_aload_n hx hb dX7_over_251 rfl (lv_at hl 0 rfl) ?_
                    refine lv_iload_n hx hb dX7_over_252 rfl (lv_at hl 1 rfl) ?_
                    refine lv_lload hx hb dX7_over_253 (lv_at hl 3 rfl) ?_
                    refine vp_callSi (va_Run.run (va_runV (As := [.int (nI k), .long x2]) (rest := [.int (f_X7_power k x1), .long q11, .int w_1, .int (nI k), .ref o]) ⟨hx, hb, hml, hown, hts⟩ (c_X7_power l o r k h_k x2 (kpos h_k hc2 c_16 c_117)) (cwV 2 hts (gV iX7_power (zin__r12 (.methodLink RX7 122 yX7_power) (List.mem_of_getElem? (i := 23) rfl))) rfl rfl rfl (by decide +kernel) ⟨Nat.le_of_ble_eq_true rfl, Nat.le_of_ble_eq_true rfl⟩) ⟨fun a U g mk q => ⟨q.1, mU_bl q.2⟩, (mU_rv hm), fun U hU hW => ⟨rfl, mU_mv hm hU hW⟩⟩ rfl rfl hl.1 rfl (lv_room (Nat.le_of_ble_eq_true rfl)) dX7_over_255 ⟨Nat.zero_le _, Nat.zero_le _⟩)) (fun r_255 hr_255 => ?_)
                    subst hr_255
                    refine lv_isub hx hb dX7_over_258 ?_
                    refine lv_bipush (v := 57) hx hb dX7_over_259 (by decide) ?_
                    refine lv_isub hx hb dX7_over_261 ?_
                    refine lv_lload hx hb dX7_over_262 (lv_at hl 6 rfl) ?_
                    refine lv_lconst (v := 0) hx hb dX7_over_264 (by decide) ?_
                    refine W.lcmp hx hb dX7_over_265 ?_
                    refine W_cut (α := Int32) (pcJ := 274) (nL := 14) (fun v => f_X7_over k x1 x2 = (f_X7_over_2 k x1 x2 w_1 q11 v)) (fun v => [.int v, .int (((f_X7_power k x1) - (f_X7_power k x2)) - (57 : Int32)), .long q11, .int w_1, .int (nI k), .ref o]) (fun v => []) (fun w_4 ls hf hl => ?_) (fun K_274 => ?_)
                    · have hf : f_X7_over k x1 x2 = (f_X7_round k w_1 q11 (((f_X7_power k x1) - (f_X7_power k x2)) - (57 : Int32)) w_4) := hf
                      have hl : lv_has ls 14 [] := hl
                      refine vp_callSl (va_Run.run (va_runV (As := [.int (nI k), .int w_1, .long q11, .int (((f_X7_power k x1) - (f_X7_power k x2)) - (57 : Int32)), .int w_4]) (rest := []) ⟨hx, hb, hml, hown, hts⟩ (c_X7_round l o r k h_k w_1 q11 (((f_X7_power k x1) - (f_X7_power k x2)) - (57 : Int32)) w_4) (cwV 5 hts (gV iX7_round (zin__r10 (.methodLink RX7 125 yX7_round) (List.mem_of_getElem? (i := 1) rfl))) rfl rfl rfl (by decide +kernel) ⟨Nat.le_of_ble_eq_true rfl, Nat.le_of_ble_eq_true rfl⟩) ⟨fun a U g mk q => ⟨q.1, mU_bl q.2⟩, (mU_rv hm), fun U hU hW => ⟨rfl, mU_mv hm hU hW⟩⟩ rfl rfl hl.1 rfl (lv_room (Nat.le_of_ble_eq_true rfl)) dX7_over_274 ⟨Nat.zero_le _, Nat.zero_le _⟩)) (fun r_274 hr_274 => ?_)
                      subst hr_274
                      exact W.lret hx hb hr (fun t ht hW => ⟨_, rfl, hf.symm, ht⟩) (fun q hq => absurd hq List.not_mem_nil) dX7_over_277
                    refine lv_if_le (tgt := 273) hx hb dX7_over_266 (by decide) (fun c_266 => ?_) (fun c_266 => ?_)
                    · have c_266 : q9 ≤ (0 : Int64) := (lg_cmp_le q9 (0 : Int64)).mp c_266
                      have hf : f_X7_over k x1 x2 = (f_X7_over_2 k x1 x2 w_1 q11 (0 : Int32)) := hf.trans (if_pos c_266)
                      refine lv_iconst (v := 0) hx hb dX7_over_273 (by decide) ?_
                      exact K_274 (0 : Int32) ls hf (lv_sub hl [] rfl)
                    · have c_266 : ¬ (q9 ≤ (0 : Int64)) := fun h9 => c_266 ((lg_cmp_le q9 (0 : Int64)).mpr h9)
                      have hf : f_X7_over k x1 x2 = (f_X7_over_2 k x1 x2 w_1 q11 (1 : Int32)) := hf.trans (if_neg c_266)
                      refine lv_iconst (v := 1) hx hb dX7_over_269 (by decide) ?_
                      refine lv_goto (tgt := 274) hx hb dX7_over_270 (by decide) ?_
                      exact K_274 (1 : Int32) ls hf (lv_sub hl [] rfl)
                  · have hf : f_X7_over k x1 x2 = (f_X7_over_5 v7_2 q9 q13 rec_193 (jlshl q11 (1 : Int32))) := hf.trans (if_neg c_197)
                    refine lv_lload hx hb dX7_over_200 (lv_at hl 7 rfl) ?_
                    refine lv_iconst (v := 1) hx hb dX7_over_202 (by decide) ?_
                    refine lv_lshl (v := (jlshl q11 (1 : Int32))) hx hb dX7_over_203 rfl ?_
                    refine lv_topl (fun v11_5 e_v11_5 => ?_)
                    have hf : f_X7_over k x1 x2 = (f_X7_over_5 v7_2 q9 q13 rec_193 v11_5) := hf.trans (congrArg (fun z => (f_X7_over_5 v7_2 q9 q13 rec_193 z)) e_v11_5.symm)
                    refine lv_lstore (lv' := [(11, .long v11_5), (0, .ref o), (1, .int (nI k)), (2, .long x1), (4, .long x2), (6, .int w_1), (7, .long v7_2), (9, .long q9), (13, .int q13)]) hx hb dX7_over_204 hl (by decide) rfl (fun ls hl => ?_)
                    refine lv_lload hx hb dX7_over_206 (lv_at hl 7 rfl) ?_
                    refine lv_lload hx hb dX7_over_208 (lv_at hl 6 rfl) ?_
                    refine W.lcmp hx hb dX7_over_210 ?_
                    refine W_cut (α := Int64 × Int64) (pcJ := 227) (nL := 14) (fun v => f_X7_over k x1 x2 = (f_X7_over_4 q13 rec_193 v.1 v.2)) (fun v => []) (fun v => [(0, .ref o), (1, .int (nI k)), (2, .long x1), (4, .long x2), (6, .int w_1), (7, .long v7_2), (9, .long v.1), (11, .long v.2), (13, .int q13)]) (fun v ls hf hl => ?_) (fun K_227 => ?_)
                    · obtain ⟨v9_6, v11_7⟩ := v
                      have hf : f_X7_over k x1 x2 = (rec_193 (jlshl v9_6 (1 : Int32)) v11_7 (q13 + (1 : Int32))) := hf
                      have hl : lv_has ls 14 [(0, .ref o), (1, .int (nI k)), (2, .long x1), (4, .long x2), (6, .int w_1), (7, .long v7_2), (9, .long v9_6), (11, .long v11_7), (13, .int q13)] := hl
                      refine lv_lload hx hb dX7_over_227 (lv_at hl 6 rfl) ?_
                      refine lv_iconst (v := 1) hx hb dX7_over_229 (by decide) ?_
                      refine lv_lshl (v := (jlshl v9_6 (1 : Int32))) hx hb dX7_over_230 rfl ?_
                      refine lv_topl (fun v9_8 e_v9_8 => ?_)
                      have hf : f_X7_over k x1 x2 = (rec_193 v9_8 v11_7 (q13 + (1 : Int32))) := hf.trans (congrArg (fun z => (rec_193 z v11_7 (q13 + (1 : Int32)))) e_v9_8.symm)
                      refine lv_lstore (lv' := [(9, .long v9_8), (0, .ref o), (1, .int (nI k)), (2, .long x1), (4, .long x2), (6, .int w_1), (7, .long v7_2), (11, .long v11_7), (13, .int q13)]) hx hb dX7_over_231 hl (by decide) rfl (fun ls hl => ?_)
                      obtain ⟨v13_9, e_v13_9⟩ : ∃ y : Int32, y = (q13 + (1 : Int32)) := ⟨_, rfl⟩
                      refine lv_iinc (v := v13_9) (lv' := [(13, .int v13_9), (9, .long v9_8), (0, .ref o), (1, .int (nI k)), (2, .long x1), (4, .long x2), (6, .int w_1), (7, .long v7_2), (11, .long v11_7)]) hx hb dX7_over_233 hl (k := 8) rfl (by rw [e_v13_9]; rfl) (by decide) rfl (fun ls hl => ?_)
                      have hf : f_X7_over k x1 x2 = (rec_193 v9_8 v11_7 v13_9) := hf.trans (congrArg (fun z => (rec_193 v9_8 v11_7 z)) e_v13_9.symm)
                      refine lv_goto (tgt := 193) hx hb dX7_over_236 (by decide) ?_
                      exact ih_193 (v9_8, v11_7, v13_9) ls ⟨hf.trans (congrFun (congrFun (congrFun hrec_193 _) _) _), (by rw [e_v13_9]; exact cnt_step (N := 58) (by decide) hI c_197)⟩ (lv_sub hl [2, 3, 4, 5, 6, 7, 1, 8, 0] rfl)
                    refine lv_if_lt (tgt := 227) hx hb dX7_over_211 (by decide) (fun c_211 => ?_) (fun c_211 => ?_)
                    · have c_211 : q9 < v7_2 := (lg_cmp_lt q9 v7_2).mp c_211
                      have hf : f_X7_over k x1 x2 = (f_X7_over_4 q13 rec_193 q9 v11_5) := hf.trans (if_pos c_211)
                      exact K_227 (q9, v11_5) ls hf (lv_sub hl [1, 2, 3, 4, 5, 6, 7, 0, 8] rfl)
                    · have c_211 : ¬ (q9 < v7_2) := fun h9 => c_211 ((lg_cmp_lt q9 v7_2).mpr h9)
                      have hf : f_X7_over k x1 x2 = (f_X7_over_4 q13 rec_193 (q9 - v7_2) (v11_5 + (1 : Int64))) := hf.trans (if_neg c_211)
                      refine lv_lload hx hb dX7_over_214 (lv_at hl 7 rfl) ?_
                      refine lv_lload hx hb dX7_over_216 (lv_at hl 6 rfl) ?_
                      refine lv_lsub hx hb dX7_over_218 ?_
                      refine lv_topl (fun v9_10 e_v9_10 => ?_)
                      have hf : f_X7_over k x1 x2 = (f_X7_over_4 q13 rec_193 v9_10 (v11_5 + (1 : Int64))) := hf.trans (congrArg (fun z => (f_X7_over_4 q13 rec_193 z (v11_5 + (1 : Int64)))) e_v9_10.symm)
                      refine lv_lstore (lv' := [(9, .long v9_10), (11, .long v11_5), (0, .ref o), (1, .int (nI k)), (2, .long x1), (4, .long x2), (6, .int w_1), (7, .long v7_2), (13, .int q13)]) hx hb dX7_over_219 hl (by decide) rfl (fun ls hl => ?_)
                      refine lv_lload hx hb dX7_over_221 (lv_at hl 1 rfl) ?_
                      refine lv_lconst (v := 1) hx hb dX7_over_223 (by decide) ?_
                      refine lv_ladd hx hb dX7_over_224 ?_
                      refine lv_topl (fun v11_11 e_v11_11 => ?_)
                      have hf : f_X7_over k x1 x2 = (f_X7_over_4 q13 rec_193 v9_10 v11_11) := hf.trans (congrArg (fun z => (f_X7_over_4 q13 rec_193 v9_10 z)) e_v11_11.symm)
                      refine lv_lstore (lv' := [(11, .long v11_11), (9, .long v9_10), (0, .ref o), (1, .int (nI k)), (2, .long x1), (4, .long x2), (6, .int w_1), (7, .long v7_2), (13, .int q13)]) hx hb dX7_over_225 hl (by decide) rfl (fun ls hl => ?_)
                      exact K_227 (v9_10, v11_11) ls hf (lv_sub hl [2, 3, 4, 5, 6, 7, 1, 0, 8] rfl)
              · have hf : f_X7_over k x1 x2 = (f_X7_signed k (0 : Int64) w_1) := hf.trans (if_neg c_158)
                refine lv_aload_n hx hb dX7_over_161 rfl (lv_at hl 1 rfl) ?_
                refine lv_iload_n hx hb dX7_over_162 rfl (lv_at hl 2 rfl) ?_
                refine lv_lconst (v := 0) hx hb dX7_over_163 (by decide) ?_
                refine lv_iload hx hb dX7_over_164 (lv_at hl 0 rfl) ?_
                refine vp_callSl (va_Run.run (va_runV (As := [.int (nI k), .long (0 : Int64), .int w_1]) (rest := []) ⟨hx, hb, hml, hown, hts⟩ (c_X7_signed l o r k h_k (0 : Int64) w_1) (cwV 3 hts (gV iX7_signed (zin__r10 (.methodLink RX7 111 yX7_signed) (List.mem_of_getElem? (i := 5) rfl))) rfl rfl rfl (by decide +kernel) ⟨Nat.le_of_ble_eq_true rfl, Nat.le_of_ble_eq_true rfl⟩) ⟨fun a U g mk q => ⟨q.1, mU_bl q.2⟩, (mU_rv hm), fun U hU hW => ⟨rfl, mU_mv hm hU hW⟩⟩ rfl rfl hl.1 rfl (lv_room (Nat.le_of_ble_eq_true rfl)) dX7_over_166 ⟨Nat.zero_le _, Nat.zero_le _⟩)) (fun r_166 hr_166 => ?_)
                subst hr_166
                exact W.lret hx hb hr (fun t ht hW => ⟨_, rfl, hf.symm, ht⟩) (fun q hq => absurd hq List.not_mem_nil) dX7_over_169
            · have hf : f_X7_over k x1 x2 = (f_X7_over_9 k x1 w_1) := hf.trans (if_neg c_117)
              refine lv_aload_n hx hb dX7_over_120 rfl (lv_at hl 1 rfl) ?_
              refine lv_iload_n hx hb dX7_over_121 rfl (lv_at hl 2 rfl) ?_
              refine lv_lload_n hx hb dX7_over_122 rfl (lv_at hl 3 rfl) ?_
              refine vp_callSi (va_Run.run (va_runV (As := [.int (nI k), .long x1]) (rest := []) ⟨hx, hb, hml, hown, hts⟩ (c_X7_zero l o r k h_k x1) (cwV 2 hts (gV iX7_zero (zin__r7 (.methodLink RX7 102 yX7_zero) (List.mem_of_getElem? (i := 21) rfl))) rfl rfl rfl (by decide +kernel) ⟨Nat.le_of_ble_eq_true rfl, Nat.le_of_ble_eq_true rfl⟩) ⟨fun a U g mk q => ⟨q.1, mU_bl q.2⟩, (mU_rv hm), fun U hU hW => ⟨rfl, mU_mv hm hU hW⟩⟩ rfl rfl hl.1 rfl (lv_room (Nat.le_of_ble_eq_true rfl)) dX7_over_123 ⟨Nat.zero_le _, Nat.zero_le _⟩)) (fun r_123 hr_123 => ?_)
              subst hr_123
              refine lv_if_eq (tgt := 138) hx hb dX7_over_126 (by decide) (fun c_126 => ?_) (fun c_126 => ?_)
              · have hf : f_X7_over k x1 x2 = (f_X7_signed k (kinf k) w_1) := hf.trans (if_pos c_126)
                refine lv_aload_n hx hb dX7_over_138 rfl (lv_at hl 1 rfl) ?_
                refine lv_iload_n hx hb dX7_over_139 rfl (lv_at hl 2 rfl) ?_
                refine lv_aload_n hx hb dX7_over_140 rfl (lv_at hl 1 rfl) ?_
                refine vk_getf hx hb (mE_INFINITE hm) va_S.rf hown (hts _ (zin__r2 (.fieldLink RX7 31 "ReckonBenchModel" "INFINITE" "[J") (List.mem_of_getElem? (i := 18) rfl))) (fun _ h9 => h9) dX7_over_141 ?_
                refine lv_iload_n hx hb dX7_over_144 rfl (lv_at hl 2 rfl) ?_
                refine va_tl hx hb (mT_INFINITE hm) va_S.rf (kin h_k) (v := .long (kinf k)) (kev (fun j => Value.long (kinf j)) h_k) dX7_over_145 ?_
                refine lv_iload hx hb dX7_over_146 (lv_at hl 0 rfl) ?_
                refine vp_callSl (va_Run.run (va_runV (As := [.int (nI k), .long (kinf k), .int w_1]) (rest := []) ⟨hx, hb, hml, hown, hts⟩ (c_X7_signed l o r k h_k (kinf k) w_1) (cwV 3 hts (gV iX7_signed (zin__r10 (.methodLink RX7 111 yX7_signed) (List.mem_of_getElem? (i := 5) rfl))) rfl rfl rfl (by decide +kernel) ⟨Nat.le_of_ble_eq_true rfl, Nat.le_of_ble_eq_true rfl⟩) ⟨fun a U g mk q => ⟨q.1, mU_bl q.2⟩, (mU_rv hm), fun U hU hW => ⟨rfl, mU_mv hm hU hW⟩⟩ rfl rfl hl.1 rfl (lv_room (Nat.le_of_ble_eq_true rfl)) dX7_over_148 ⟨Nat.zero_le _, Nat.zero_le _⟩)) (fun r_148 hr_148 => ?_)
                subst hr_148
                exact W.lret hx hb hr (fun t ht hW => ⟨_, rfl, hf.symm, ht⟩) (fun q hq => absurd hq List.not_mem_nil) dX7_over_151
              · have hf : f_X7_over k x1 x2 = (knan k) := hf.trans (if_neg c_126)
                refine lv_aload_n hx hb dX7_over_129 rfl (lv_at hl 1 rfl) ?_
                refine vk_getf hx hb (mE_NONE hm) va_S.rf hown (hts _ (zin__r2 (.fieldLink RX7 38 "ReckonBenchModel" "NONE" "[J") (List.mem_of_getElem? (i := 21) rfl))) (fun _ h9 => h9) dX7_over_130 ?_
                refine lv_iload_n hx hb dX7_over_133 rfl (lv_at hl 2 rfl) ?_
                refine va_tl hx hb (mT_NONE hm) va_S.rf (kin h_k) (v := .long (knan k)) (kev (fun j => Value.long (knan j)) h_k) dX7_over_134 ?_
                refine lv_goto (tgt := 151) hx hb dX7_over_135 (by decide) ?_
                exact W.lret hx hb hr (fun t ht hW => ⟨_, rfl, hf.symm, ht⟩) (fun q hq => absurd hq List.not_mem_nil) dX7_over_151
          · have hf : f_X7_over k x1 x2 = (f_X7_signed k (0 : Int64) w_1) := hf.trans (if_neg c_98)
            refine lv_aload_n hx hb dX7_over_101 rfl (lv_at hl 1 rfl) ?_
            refine lv_iload_n hx hb dX7_over_102 rfl (lv_at hl 2 rfl) ?_
            refine lv_lconst (v := 0) hx hb dX7_over_103 (by decide) ?_
            refine lv_iload hx hb dX7_over_104 (lv_at hl 0 rfl) ?_
            refine vp_callSl (va_Run.run (va_runV (As := [.int (nI k), .long (0 : Int64), .int w_1]) (rest := []) ⟨hx, hb, hml, hown, hts⟩ (c_X7_signed l o r k h_k (0 : Int64) w_1) (cwV 3 hts (gV iX7_signed (zin__r10 (.methodLink RX7 111 yX7_signed) (List.mem_of_getElem? (i := 5) rfl))) rfl rfl rfl (by decide +kernel) ⟨Nat.le_of_ble_eq_true rfl, Nat.le_of_ble_eq_true rfl⟩) ⟨fun a U g mk q => ⟨q.1, mU_bl q.2⟩, (mU_rv hm), fun U hU hW => ⟨rfl, mU_mv hm hU hW⟩⟩ rfl rfl hl.1 rfl (lv_room (Nat.le_of_ble_eq_true rfl)) dX7_over_106 ⟨Nat.zero_le _, Nat.zero_le _⟩)) (fun r_106 hr_106 => ?_)
            subst hr_106
            exact W.lret hx hb hr (fun t ht hW => ⟨_, rfl, hf.symm, ht⟩) (fun q hq => absurd hq List.not_mem_nil) dX7_over_109
        · have hf : f_X7_over k x1 x2 = (f_X7_over_12 k x2 w_1) := hf.trans (if_neg c_55)
          refine lv_aload_n hx hb dX7_over_58 rfl (lv_at hl 1 rfl) ?_
          refine lv_iload_n hx hb dX7_over_59 rfl (lv_at hl 2 rfl) ?_
          refine lv_lload hx hb dX7_over_60 (lv_at hl 4 rfl) ?_
          refine vp_callSi (va_Run.run (va_runV (As := [.int (nI k), .long x2]) (rest := []) ⟨hx, hb, hml, hown, hts⟩ (c_X7_infinite l o r k h_k x2) (cwV 2 hts (gV iX7_infinite (zin__r8 (.methodLink RX7 105 yX7_infinite) (List.mem_of_getElem? (i := 1) rfl))) rfl rfl rfl (by decide +kernel) ⟨Nat.le_of_ble_eq_true rfl, Nat.le_of_ble_eq_true rfl⟩) ⟨fun a U g mk q => ⟨q.1, mU_bl q.2⟩, (mU_rv hm), fun U hU hW => ⟨rfl, mU_mv hm hU hW⟩⟩ rfl rfl hl.1 rfl (lv_room (Nat.le_of_ble_eq_true rfl)) dX7_over_62 ⟨Nat.zero_le _, Nat.zero_le _⟩)) (fun r_62 hr_62 => ?_)
          subst hr_62
          refine lv_if_eq (tgt := 77) hx hb dX7_over_65 (by decide) (fun c_65 => ?_) (fun c_65 => ?_)
          · have hf : f_X7_over k x1 x2 = (f_X7_signed k (kinf k) w_1) := hf.trans (if_pos c_65)
            refine lv_aload_n hx hb dX7_over_77 rfl (lv_at hl 1 rfl) ?_
            refine lv_iload_n hx hb dX7_over_78 rfl (lv_at hl 2 rfl) ?_
            refine lv_aload_n hx hb dX7_over_79 rfl (lv_at hl 1 rfl) ?_
            refine vk_getf hx hb (mE_INFINITE hm) va_S.rf hown (hts _ (zin__r2 (.fieldLink RX7 31 "ReckonBenchModel" "INFINITE" "[J") (List.mem_of_getElem? (i := 18) rfl))) (fun _ h9 => h9) dX7_over_80 ?_
            refine lv_iload_n hx hb dX7_over_83 rfl (lv_at hl 2 rfl) ?_
            refine va_tl hx hb (mT_INFINITE hm) va_S.rf (kin h_k) (v := .long (kinf k)) (kev (fun j => Value.long (kinf j)) h_k) dX7_over_84 ?_
            refine lv_iload hx hb dX7_over_85 (lv_at hl 0 rfl) ?_
            refine vp_callSl (va_Run.run (va_runV (As := [.int (nI k), .long (kinf k), .int w_1]) (rest := []) ⟨hx, hb, hml, hown, hts⟩ (c_X7_signed l o r k h_k (kinf k) w_1) (cwV 3 hts (gV iX7_signed (zin__r10 (.methodLink RX7 111 yX7_signed) (List.mem_of_getElem? (i := 5) rfl))) rfl rfl rfl (by decide +kernel) ⟨Nat.le_of_ble_eq_true rfl, Nat.le_of_ble_eq_true rfl⟩) ⟨fun a U g mk q => ⟨q.1, mU_bl q.2⟩, (mU_rv hm), fun U hU hW => ⟨rfl, mU_mv hm hU hW⟩⟩ rfl rfl hl.1 rfl (lv_room (Nat.le_of_ble_eq_true rfl)) dX7_over_87 ⟨Nat.zero_le _, Nat.zero_le _⟩)) (fun r_87 hr_87 => ?_)
            subst hr_87
            exact W.lret hx hb hr (fun t ht hW => ⟨_, rfl, hf.symm, ht⟩) (fun q hq => absurd hq List.not_mem_nil) dX7_over_90
          · have hf : f_X7_over k x1 x2 = (knan k) := hf.trans (if_neg c_65)
            refine lv_aload_n hx hb dX7_over_68 rfl (lv_at hl 1 rfl) ?_
            refine vk_getf hx hb (mE_NONE hm) va_S.rf hown (hts _ (zin__r2 (.fieldLink RX7 38 "ReckonBenchModel" "NONE" "[J") (List.mem_of_getElem? (i := 21) rfl))) (fun _ h9 => h9) dX7_over_69 ?_
            refine lv_iload_n hx hb dX7_over_72 rfl (lv_at hl 2 rfl) ?_
            refine va_tl hx hb (mT_NONE hm) va_S.rf (kin h_k) (v := .long (knan k)) (kev (fun j => Value.long (knan j)) h_k) dX7_over_73 ?_
            refine lv_goto (tgt := 90) hx hb dX7_over_74 (by decide) ?_
            exact W.lret hx hb hr (fun t ht hW => ⟨_, rfl, hf.symm, ht⟩) (fun q hq => absurd hq List.not_mem_nil) dX7_over_90
      refine lv_icmp_eq (tgt := 46) hx hb dX7_over_39 (by decide) (fun c_39 => ?_) (fun c_39 => ?_)
      · have hf : f_X7_over k x1 x2 = (f_X7_over_13 k x1 x2 (0 : Int32)) := hf.trans (if_pos c_39)
        refine lv_iconst (v := 0) hx hb dX7_over_46 (by decide) ?_
        exact K_47 (0 : Int32) ls hf (lv_sub hl [0, 1, 2, 3] rfl)
      · have hf : f_X7_over k x1 x2 = (f_X7_over_13 k x1 x2 (1 : Int32)) := hf.trans (if_neg c_39)
        refine lv_iconst (v := 1) hx hb dX7_over_42 (by decide) ?_
        refine lv_goto (tgt := 47) hx hb dX7_over_43 (by decide) ?_
        exact K_47 (1 : Int32) ls hf (lv_sub hl [0, 1, 2, 3] rfl)
    · have hf : f_X7_over k x1 x2 = (f_X7_over_1 k) := hf.trans (if_neg c_16)
      exact K_19 () ls hf (lv_sub hl [0, 1] rfl)
def f_X7_left_1 (k : Nat) : Int64 := (knan k)
def f_X7_left_2 (k : Nat) (x1 : Int64) (x2 : Int64) (q8 : Int64) : Int64 := if q8 = (0 : Int64) then (f_X7_signed k (0 : Int64) (f_X7_minus k x1)) else (f_X7_round k (f_X7_minus k x1) q8 (f_X7_power k x2) (0 : Int32))
def f_X7_left_3 (k : Nat) (x1 : Int64) (x2 : Int64) (v6_1 : Int64) (q8 : Int64) (q10 : Int32) (rec_100 : Int64 → Int32 → Int64) : Int64 := if q10 ≤ 0 then (f_X7_left_2 k x1 x2 q8) else (rec_100 (jlrem (jlshl q8 (1 : Int32)) v6_1) (q10 + (-1 : Int32)))
def f_X7_left_L100 (k : Nat) (x1 : Int64) (x2 : Int64) (v6_1 : Int64) : Nat → Int64 → Int32 → Int64
  | 0, _, _ => 0
  | n + 1, q8, q10 => (f_X7_left_3 k x1 x2 v6_1 q8 q10 (f_X7_left_L100 k x1 x2 v6_1 n))
def f_X7_left_5 (k : Nat) (x1 : Int64) (x2 : Int64) (v6_1 : Int64) (v8_2 : Int64) (v10_3 : Int32) : Int64 := (f_X7_left_L100 k x1 x2 v6_1 (v10_3.toInt.toNat + 1) v8_2 v10_3)
def f_X7_left_6 (k : Nat) (x1 : Int64) (x2 : Int64) (v6_1 : Int64) : Int64 := (f_X7_left_5 k x1 x2 v6_1 (jlrem (f_X7_mantissa k x1) v6_1) ((f_X7_power k x1) - (f_X7_power k x2)))
def f_X7_left_7 (k : Nat) (x1 : Int64) (x2 : Int64) : Int64 := if (f_X7_unsigned k x2) ≤ (f_X7_unsigned k x1) then (f_X7_left_6 k x1 x2 (f_X7_mantissa k x2)) else x1
def f_X7_left_8 (k : Nat) (x1 : Int64) (x2 : Int64) : Int64 := if (f_X7_zero k x2) = 0 then (f_X7_left_7 k x1 x2) else (f_X7_left_1 k)
def f_X7_left_9 (k : Nat) (x1 : Int64) (x2 : Int64) : Int64 := if (f_X7_infinite k x1) = 0 then (f_X7_left_8 k x1 x2) else (f_X7_left_1 k)
def f_X7_left_10 (k : Nat) (x1 : Int64) (x2 : Int64) : Int64 := if (f_X7_none k x2) = 0 then (f_X7_left_9 k x1 x2) else (f_X7_left_1 k)
def f_X7_left_11 (k : Nat) (x1 : Int64) (x2 : Int64) : Int64 := if (f_X7_none k x1) = 0 then (f_X7_left_10 k x1 x2) else (f_X7_left_1 k)
def f_X7_left (k : Nat) (x1 : Int64) (x2 : Int64) : Int64 := (f_X7_left_11 k x1 x2)
def zX7_left : List Cond := .code yX7_left cX7_left 11 (some .long) :: zall
theorem iX7_left : MWv RX7 yX7_left (.code yX7_left cX7_left 11 (some .long)) := ⟨(zin__r22 (.instanceMethod yX7_left) (List.mem_of_getElem? (i := 1) rfl)), (zin__r22 (.selects RX7 yX7_left yX7_left) (List.mem_of_getElem? (i := 2) rfl)), (zin__r1 (.initialized RX7) (List.mem_of_getElem? (i := 5) rfl)), (zin__r22 (.code yX7_left cX7_left 11 (some .long)) (List.mem_of_getElem? (i := 3) rfl))⟩
set_option maxHeartbeats 4000000 in
set_option maxRecDepth 100000 in
theorem c_X7_left (l : Launch) (o : Nat) (r : Nat → Nat) (k : Nat) (h_k : k < 2) (x1 : Int64) (x2 : Int64) (hc1 : kcn k x1) (hc2 : kcn k x2) : Met l yX7_left zX7_left ({ frames := 2, cells := 0, slots := 0, locals := 59 }) (va_Pc [.ref o, .int (nI k), .long x1, .long x2] (fun U => mU o r U)) (vp_Sl (fun r => r = f_X7_left k x1 x2)) 0 0 (fun _ => False) := by
  refine Met.ofW (cc := cX7_left) (maxL := 11) (ret := (some .long)) (by decide) rfl ?_
  intro p e s m args below meth c s₁ B hml hv
  obtain ⟨rfl, hm⟩ := hv
  have hx := B.exec
  have hb := B.bytes
  have hr := B.returns
  have hts : ∀ w ∈ zall, w.before _ s = true := fun w h => atoms_spec (ws := zX7_left) B.pre w (List.mem_cons_of_mem _ h)
  have hown : s.vm.findClass RX7 = some m.cls := findClass_of_methodNamed B.named
  have hlocks := B.notSynchronized
  have hl := lv_entry ([.ref o, .int (nI k), .long x1, .long x2]) (n := 11) (Nat.le_of_ble_eq_true rfl)
  rw [lg_entry_eq]
  generalize (lg_sl ([.ref o, .int (nI k), .long x1, .long x2]) ++ List.replicate (11 - (lg_sl ([.ref o, .int (nI k), .long x1, .long x2])).length) Slot.unset).toArray = ls at hl ⊢
  have hl : lv_has ls 11 [(0, .ref o), (1, .int (nI k)), (2, .long x1), (4, .long x2)] := hl
  have hf : f_X7_left k x1 x2 = (f_X7_left_11 k x1 x2) := rfl
  refine lv_aload_n hx hb dX7_left_0 rfl (lv_at hl 0 rfl) ?_
  refine lv_iload_n hx hb dX7_left_1 rfl (lv_at hl 1 rfl) ?_
  refine lv_lload_n hx hb dX7_left_2 rfl (lv_at hl 2 rfl) ?_
  refine vp_callSi (va_Run.run (va_runV (As := [.int (nI k), .long x1]) (rest := []) ⟨hx, hb, hml, hown, hts⟩ (c_X7_none l o r k h_k x1) (cwV 2 hts (gV iX7_none (zin__r7 (.methodLink RX7 98 yX7_none) (List.mem_of_getElem? (i := 17) rfl))) rfl rfl rfl (by decide +kernel) ⟨Nat.le_of_ble_eq_true rfl, Nat.le_of_ble_eq_true rfl⟩) ⟨fun a U g mk q => ⟨q.1, mU_bl q.2⟩, (mU_rv hm), fun U hU hW => ⟨rfl, mU_mv hm hU hW⟩⟩ rfl rfl hl.1 rfl (lv_room (Nat.le_of_ble_eq_true rfl)) dX7_left_3 ⟨Nat.zero_le _, Nat.zero_le _⟩)) (fun r_3 hr_3 => ?_)
  subst hr_3
  refine W_cut (α := Unit) (pcJ := 38) (nL := 11) (fun v => f_X7_left k x1 x2 = (f_X7_left_1 k)) (fun v => []) (fun v => [(0, .ref o), (1, .int (nI k))]) (fun v ls hf hl => ?_) (fun K_38 => ?_)
  · have hf : f_X7_left k x1 x2 = (knan k) := hf
    have hl : lv_has ls 11 [(0, .ref o), (1, .int (nI k))] := hl
    refine lv_aload_n hx hb dX7_left_38 rfl (lv_at hl 0 rfl) ?_
    refine vk_getf hx hb (mE_NONE hm) va_S.rf hown (hts _ (zin__r2 (.fieldLink RX7 38 "ReckonBenchModel" "NONE" "[J") (List.mem_of_getElem? (i := 21) rfl))) (fun _ h9 => h9) dX7_left_39 ?_
    refine lv_iload_n hx hb dX7_left_42 rfl (lv_at hl 1 rfl) ?_
    refine va_tl hx hb (mT_NONE hm) va_S.rf (kin h_k) (v := .long (knan k)) (kev (fun j => Value.long (knan j)) h_k) dX7_left_43 ?_
    exact W.lret hx hb hr (fun t ht hW => ⟨_, rfl, hf.symm, ht⟩) (fun q hq => absurd hq List.not_mem_nil) dX7_left_44
  refine lv_if_ne (tgt := 38) hx hb dX7_left_6 (by decide) (fun c_6 => ?_) (fun c_6 => ?_)
  · have hf : f_X7_left k x1 x2 = (f_X7_left_1 k) := hf.trans (if_neg c_6)
    exact K_38 () ls hf (lv_sub hl [0, 1] rfl)
  · have hf : f_X7_left k x1 x2 = (f_X7_left_10 k x1 x2) := hf.trans (if_pos c_6)
    refine lv_aload_n hx hb dX7_left_9 rfl (lv_at hl 0 rfl) ?_
    refine lv_iload_n hx hb dX7_left_10 rfl (lv_at hl 1 rfl) ?_
    refine lv_lload hx hb dX7_left_11 (lv_at hl 3 rfl) ?_
    refine vp_callSi (va_Run.run (va_runV (As := [.int (nI k), .long x2]) (rest := []) ⟨hx, hb, hml, hown, hts⟩ (c_X7_none l o r k h_k x2) (cwV 2 hts (gV iX7_none (zin__r7 (.methodLink RX7 98 yX7_none) (List.mem_of_getElem? (i := 17) rfl))) rfl rfl rfl (by decide +kernel) ⟨Nat.le_of_ble_eq_true rfl, Nat.le_of_ble_eq_true rfl⟩) ⟨fun a U g mk q => ⟨q.1, mU_bl q.2⟩, (mU_rv hm), fun U hU hW => ⟨rfl, mU_mv hm hU hW⟩⟩ rfl rfl hl.1 rfl (lv_room (Nat.le_of_ble_eq_true rfl)) dX7_left_13 ⟨Nat.zero_le _, Nat.zero_le _⟩)) (fun r_13 hr_13 => ?_)
    subst hr_13
    refine lv_if_ne (tgt := 38) hx hb dX7_left_16 (by decide) (fun c_16 => ?_) (fun c_16 => ?_)
    · have hf : f_X7_left k x1 x2 = (f_X7_left_1 k) := hf.trans (if_neg c_16)
      exact K_38 () ls hf (lv_sub hl [0, 1] rfl)
    · have hf : f_X7_left k x1 x2 = (f_X7_left_9 k x1 x2) := hf.trans (if_pos c_16)
      refine lv_aload_n hx hb dX7_left_19 rfl (lv_at hl 0 rfl) ?_
      refine lv_iload_n hx hb dX7_left_20 rfl (lv_at hl 1 rfl) ?_
      refine lv_lload_n hx hb dX7_left_21 rfl (lv_at hl 2 rfl) ?_
      refine vp_callSi (va_Run.run (va_runV (As := [.int (nI k), .long x1]) (rest := []) ⟨hx, hb, hml, hown, hts⟩ (c_X7_infinite l o r k h_k x1) (cwV 2 hts (gV iX7_infinite (zin__r8 (.methodLink RX7 105 yX7_infinite) (List.mem_of_getElem? (i := 1) rfl))) rfl rfl rfl (by decide +kernel) ⟨Nat.le_of_ble_eq_true rfl, Nat.le_of_ble_eq_true rfl⟩) ⟨fun a U g mk q => ⟨q.1, mU_bl q.2⟩, (mU_rv hm), fun U hU hW => ⟨rfl, mU_mv hm hU hW⟩⟩ rfl rfl hl.1 rfl (lv_room (Nat.le_of_ble_eq_true rfl)) dX7_left_22 ⟨Nat.zero_le _, Nat.zero_le _⟩)) (fun r_22 hr_22 => ?_)
      subst hr_22
      refine lv_if_ne (tgt := 38) hx hb dX7_left_25 (by decide) (fun c_25 => ?_) (fun c_25 => ?_)
      · have hf : f_X7_left k x1 x2 = (f_X7_left_1 k) := hf.trans (if_neg c_25)
        exact K_38 () ls hf (lv_sub hl [0, 1] rfl)
      · have hf : f_X7_left k x1 x2 = (f_X7_left_8 k x1 x2) := hf.trans (if_pos c_25)
        refine lv_aload_n hx hb dX7_left_28 rfl (lv_at hl 0 rfl) ?_
        refine lv_iload_n hx hb dX7_left_29 rfl (lv_at hl 1 rfl) ?_
        refine lv_lload hx hb dX7_left_30 (lv_at hl 3 rfl) ?_
        refine vp_callSi (va_Run.run (va_runV (As := [.int (nI k), .long x2]) (rest := []) ⟨hx, hb, hml, hown, hts⟩ (c_X7_zero l o r k h_k x2) (cwV 2 hts (gV iX7_zero (zin__r7 (.methodLink RX7 102 yX7_zero) (List.mem_of_getElem? (i := 21) rfl))) rfl rfl rfl (by decide +kernel) ⟨Nat.le_of_ble_eq_true rfl, Nat.le_of_ble_eq_true rfl⟩) ⟨fun a U g mk q => ⟨q.1, mU_bl q.2⟩, (mU_rv hm), fun U hU hW => ⟨rfl, mU_mv hm hU hW⟩⟩ rfl rfl hl.1 rfl (lv_room (Nat.le_of_ble_eq_true rfl)) dX7_left_32 ⟨Nat.zero_le _, Nat.zero_le _⟩)) (fun r_32 hr_32 => ?_)
        subst hr_32
        refine lv_if_eq (tgt := 45) hx hb dX7_left_35 (by decide) (fun c_35 => ?_) (fun c_35 => ?_)
        · have hf : f_X7_left k x1 x2 = (f_X7_left_7 k x1 x2) := hf.trans (if_pos c_35)
          refine lv_aload_n hx hb dX7_left_45 rfl (lv_at hl 0 rfl) ?_
          refine lv_iload_n hx hb dX7_left_46 rfl (lv_at hl 1 rfl) ?_
          refine lv_lload_n hx hb dX7_left_47 rfl (lv_at hl 2 rfl) ?_
          refine vp_callSl (va_Run.run (va_runV (As := [.int (nI k), .long x1]) (rest := []) ⟨hx, hb, hml, hown, hts⟩ (c_X7_unsigned l o r k h_k x1) (cwV 2 hts (gV iX7_unsigned (zin__r7 (.methodLink RX7 94 yX7_unsigned) (List.mem_of_getElem? (i := 4) rfl))) rfl rfl rfl (by decide +kernel) ⟨Nat.le_of_ble_eq_true rfl, Nat.le_of_ble_eq_true rfl⟩) ⟨fun a U g mk q => ⟨q.1, mU_bl q.2⟩, (mU_rv hm), fun U hU hW => ⟨rfl, mU_mv hm hU hW⟩⟩ rfl rfl hl.1 rfl (lv_room (Nat.le_of_ble_eq_true rfl)) dX7_left_48 ⟨Nat.zero_le _, Nat.zero_le _⟩)) (fun r_48 hr_48 => ?_)
          subst hr_48
          refine lv_aload_n hx hb dX7_left_51 rfl (lv_at hl 0 rfl) ?_
          refine lv_iload_n hx hb dX7_left_52 rfl (lv_at hl 1 rfl) ?_
          refine lv_lload hx hb dX7_left_53 (lv_at hl 3 rfl) ?_
          refine vp_callSl (va_Run.run (va_runV (As := [.int (nI k), .long x2]) (rest := [.long (f_X7_unsigned k x1)]) ⟨hx, hb, hml, hown, hts⟩ (c_X7_unsigned l o r k h_k x2) (cwV 2 hts (gV iX7_unsigned (zin__r7 (.methodLink RX7 94 yX7_unsigned) (List.mem_of_getElem? (i := 4) rfl))) rfl rfl rfl (by decide +kernel) ⟨Nat.le_of_ble_eq_true rfl, Nat.le_of_ble_eq_true rfl⟩) ⟨fun a U g mk q => ⟨q.1, mU_bl q.2⟩, (mU_rv hm), fun U hU hW => ⟨rfl, mU_mv hm hU hW⟩⟩ rfl rfl hl.1 rfl (lv_room (Nat.le_of_ble_eq_true rfl)) dX7_left_55 ⟨Nat.zero_le _, Nat.zero_le _⟩)) (fun r_55 hr_55 => ?_)
          subst hr_55
          refine W.lcmp hx hb dX7_left_58 ?_
          refine lv_if_ge (tgt := 64) hx hb dX7_left_59 (by decide) (fun c_59 => ?_) (fun c_59 => ?_)
          · have c_59 : (f_X7_unsigned k x2) ≤ (f_X7_unsigned k x1) := (lg_cmp_ge (f_X7_unsigned k x1) (f_X7_unsigned k x2)).mp c_59
            have hf : f_X7_left k x1 x2 = (f_X7_left_6 k x1 x2 (f_X7_mantissa k x2)) := hf.trans (if_pos c_59)
            refine lv_aload_n hx hb dX7_left_64 rfl (lv_at hl 0 rfl) ?_
            refine lv_iload_n hx hb dX7_left_65 rfl (lv_at hl 1 rfl) ?_
            refine lv_lload hx hb dX7_left_66 (lv_at hl 3 rfl) ?_
            refine vp_callSl (va_Run.run (va_runV (As := [.int (nI k), .long x2]) (rest := []) ⟨hx, hb, hml, hown, hts⟩ (c_X7_mantissa l o r k h_k x2 (kpos h_k hc2 c_16 c_35)) (cwV 2 hts (gV iX7_mantissa (zin__r13 (.methodLink RX7 119 yX7_mantissa) (List.mem_of_getElem? (i := 3) rfl))) rfl rfl rfl (by decide +kernel) ⟨Nat.le_of_ble_eq_true rfl, Nat.le_of_ble_eq_true rfl⟩) ⟨fun a U g mk q => ⟨q.1, mU_bl q.2⟩, (mU_rv hm), fun U hU hW => ⟨rfl, mU_mv hm hU hW⟩⟩ rfl rfl hl.1 rfl (lv_room (Nat.le_of_ble_eq_true rfl)) dX7_left_68 ⟨Nat.zero_le _, Nat.zero_le _⟩)) (fun r_68 hr_68 => ?_)
            subst hr_68
            refine lv_topl (fun v6_1 e_v6_1 => ?_)
            have hf : f_X7_left k x1 x2 = (f_X7_left_6 k x1 x2 v6_1) := hf.trans (congrArg (fun z => (f_X7_left_6 k x1 x2 z)) e_v6_1.symm)
            refine lv_lstore (lv' := [(6, .long v6_1), (0, .ref o), (1, .int (nI k)), (2, .long x1), (4, .long x2)]) hx hb dX7_left_71 hl (by decide) rfl (fun ls hl => ?_)
            refine lv_aload_n hx hb dX7_left_73 rfl (lv_at hl 1 rfl) ?_
            refine lv_iload_n hx hb dX7_left_74 rfl (lv_at hl 2 rfl) ?_
            refine lv_lload_n hx hb dX7_left_75 rfl (lv_at hl 3 rfl) ?_
            refine vp_callSl (va_Run.run (va_runV (As := [.int (nI k), .long x1]) (rest := []) ⟨hx, hb, hml, hown, hts⟩ (c_X7_mantissa l o r k h_k x1 (kposge h_k hc1 c_6 (kpos h_k hc2 c_16 c_35) c_59)) (cwV 2 hts (gV iX7_mantissa (zin__r13 (.methodLink RX7 119 yX7_mantissa) (List.mem_of_getElem? (i := 3) rfl))) rfl rfl rfl (by decide +kernel) ⟨Nat.le_of_ble_eq_true rfl, Nat.le_of_ble_eq_true rfl⟩) ⟨fun a U g mk q => ⟨q.1, mU_bl q.2⟩, (mU_rv hm), fun U hU hW => ⟨rfl, mU_mv hm hU hW⟩⟩ rfl rfl hl.1 rfl (lv_room (Nat.le_of_ble_eq_true rfl)) dX7_left_76 ⟨Nat.zero_le _, Nat.zero_le _⟩)) (fun r_76 hr_76 => ?_)
            subst hr_76
            refine lv_lload hx hb dX7_left_79 (lv_at hl 0 rfl) ?_
            refine lv_lrem hx hb dX7_left_81 (by rw [e_v6_1]; exact mant_ne h_k (kpos h_k hc2 c_16 c_35)) ?_
            refine lv_topl (fun v8_2 e_v8_2 => ?_)
            have hf : f_X7_left k x1 x2 = (f_X7_left_5 k x1 x2 v6_1 v8_2 ((f_X7_power k x1) - (f_X7_power k x2))) := hf.trans (congrArg (fun z => (f_X7_left_5 k x1 x2 v6_1 z ((f_X7_power k x1) - (f_X7_power k x2)))) e_v8_2.symm)
            refine lv_lstore (lv' := [(8, .long v8_2), (6, .long v6_1), (0, .ref o), (1, .int (nI k)), (2, .long x1), (4, .long x2)]) hx hb dX7_left_82 hl (by decide) rfl (fun ls hl => ?_)
            refine lv_aload_n hx hb dX7_left_84 rfl (lv_at hl 2 rfl) ?_
            refine lv_iload_n hx hb dX7_left_85 rfl (lv_at hl 3 rfl) ?_
            refine lv_lload_n hx hb dX7_left_86 rfl (lv_at hl 4 rfl) ?_
            refine vp_callSi (va_Run.run (va_runV (As := [.int (nI k), .long x1]) (rest := []) ⟨hx, hb, hml, hown, hts⟩ (c_X7_power l o r k h_k x1 (kposge h_k hc1 c_6 (kpos h_k hc2 c_16 c_35) c_59)) (cwV 2 hts (gV iX7_power (zin__r12 (.methodLink RX7 122 yX7_power) (List.mem_of_getElem? (i := 23) rfl))) rfl rfl rfl (by decide +kernel) ⟨Nat.le_of_ble_eq_true rfl, Nat.le_of_ble_eq_true rfl⟩) ⟨fun a U g mk q => ⟨q.1, mU_bl q.2⟩, (mU_rv hm), fun U hU hW => ⟨rfl, mU_mv hm hU hW⟩⟩ rfl rfl hl.1 rfl (lv_room (Nat.le_of_ble_eq_true rfl)) dX7_left_87 ⟨Nat.zero_le _, Nat.zero_le _⟩)) (fun r_87 hr_87 => ?_)
            subst hr_87
            refine lv_aload_n hx hb dX7_left_90 rfl (lv_at hl 2 rfl) ?_
            refine lv_iload_n hx hb dX7_left_91 rfl (lv_at hl 3 rfl) ?_
            refine lv_lload hx hb dX7_left_92 (lv_at hl 5 rfl) ?_
            refine vp_callSi (va_Run.run (va_runV (As := [.int (nI k), .long x2]) (rest := [.int (f_X7_power k x1)]) ⟨hx, hb, hml, hown, hts⟩ (c_X7_power l o r k h_k x2 (kpos h_k hc2 c_16 c_35)) (cwV 2 hts (gV iX7_power (zin__r12 (.methodLink RX7 122 yX7_power) (List.mem_of_getElem? (i := 23) rfl))) rfl rfl rfl (by decide +kernel) ⟨Nat.le_of_ble_eq_true rfl, Nat.le_of_ble_eq_true rfl⟩) ⟨fun a U g mk q => ⟨q.1, mU_bl q.2⟩, (mU_rv hm), fun U hU hW => ⟨rfl, mU_mv hm hU hW⟩⟩ rfl rfl hl.1 rfl (lv_room (Nat.le_of_ble_eq_true rfl)) dX7_left_94 ⟨Nat.zero_le _, Nat.zero_le _⟩)) (fun r_94 hr_94 => ?_)
            subst hr_94
            refine lv_isub hx hb dX7_left_97 ?_
            refine lv_topi (fun v10_3 e_v10_3 => ?_)
            have hf : f_X7_left k x1 x2 = (f_X7_left_5 k x1 x2 v6_1 v8_2 v10_3) := hf.trans (congrArg (fun z => (f_X7_left_5 k x1 x2 v6_1 v8_2 z)) e_v10_3.symm)
            refine lv_istore (lv' := [(10, .int v10_3), (8, .long v8_2), (6, .long v6_1), (0, .ref o), (1, .int (nI k)), (2, .long x1), (4, .long x2)]) hx hb dX7_left_98 hl (by decide) rfl (fun ls hl => ?_)
            refine W_loop (α := Int64 × Int32) (pcJ := 100) (nL := 11) (fun n v => f_X7_left k x1 x2 = f_X7_left_L100 k x1 x2 v6_1 n v.1 v.2 ∧ (1 ≤ n ∧ v.2.toInt < n)) (fun v => []) (fun v => [(0, .ref o), (1, .int (nI k)), (2, .long x1), (4, .long x2), (6, .long v6_1), (8, .long v.1), (10, .int v.2)]) (fun v hC => ?_) (fun n_100 ih_100 v ls hC hl => ?_) (v10_3.toInt.toNat + 1) (v8_2, v10_3) ls ⟨hf, dec_init⟩ (lv_sub hl [3, 4, 5, 6, 2, 1, 0] rfl)
            · obtain ⟨q8, q10⟩ := v
              have hI : (1 ≤ (0 : Nat) ∧ q10.toInt < (0 : Nat)) := hC.2
              omega
            · obtain ⟨q8, q10⟩ := v
              obtain ⟨hf, hI⟩ : (f_X7_left k x1 x2 = f_X7_left_L100 k x1 x2 v6_1 (n_100 + 1) q8 q10) ∧ (1 ≤ (Nat.succ n_100) ∧ q10.toInt < (Nat.succ n_100)) := hC
              obtain ⟨rec_100, hrec_100⟩ : ∃ z, z = f_X7_left_L100 k x1 x2 v6_1 n_100 := ⟨_, rfl⟩
              have hf : f_X7_left k x1 x2 = (f_X7_left_3 k x1 x2 v6_1 q8 q10 rec_100) := by rw [hrec_100]; exact hf
              have hl : lv_has ls 11 [(0, .ref o), (1, .int (nI k)), (2, .long x1), (4, .long x2), (6, .long v6_1), (8, .long q8), (10, .int q10)] := hl
              refine lv_iload hx hb dX7_left_100 (lv_at hl 6 rfl) ?_
              refine lv_if_le (tgt := 120) hx hb dX7_left_102 (by decide) (fun c_102 => ?_) (fun c_102 => ?_)
              · have hf : f_X7_left k x1 x2 = (f_X7_left_2 k x1 x2 q8) := hf.trans (if_pos c_102)
                refine lv_lload hx hb dX7_left_120 (lv_at hl 5 rfl) ?_
                refine lv_lconst (v := 0) hx hb dX7_left_122 (by decide) ?_
                refine W.lcmp hx hb dX7_left_123 ?_
                refine lv_if_ne (tgt := 142) hx hb dX7_left_124 (by decide) (fun c_124 => ?_) (fun c_124 => ?_)
                · have c_124 : ¬ (q8 = (0 : Int64)) := fun h9 => c_124 ((lg_cmp_eq q8 (0 : Int64)).mpr h9)
                  have hf : f_X7_left k x1 x2 = (f_X7_round k (f_X7_minus k x1) q8 (f_X7_power k x2) (0 : Int32)) := hf.trans (if_neg c_124)
                  refine lv_aload_n hx hb dX7_left_142 rfl (lv_at hl 0 rfl) ?_
                  refine lv_iload_n hx hb dX7_left_143 rfl (lv_at hl 1 rfl) ?_
                  refine lv_aload_n hx hb dX7_left_144 rfl (lv_at hl 0 rfl) ?_
                  refine lv_iload_n hx hb dX7_left_145 rfl (lv_at hl 1 rfl) ?_
                  refine lv_lload_n hx hb dX7_left_146 rfl (lv_at hl 2 rfl) ?_
                  refine vp_callSi (va_Run.run (va_runV (As := [.int (nI k), .long x1]) (rest := [.int (nI k), .ref o]) ⟨hx, hb, hml, hown, hts⟩ (c_X7_minus l o r k h_k x1) (cwV 2 hts (gV iX7_minus (zin__r8 (.methodLink RX7 108 yX7_minus) (List.mem_of_getElem? (i := 5) rfl))) rfl rfl rfl (by decide +kernel) ⟨Nat.le_of_ble_eq_true rfl, Nat.le_of_ble_eq_true rfl⟩) ⟨fun a U g mk q => ⟨q.1, mU_bl q.2⟩, (mU_rv hm), fun U hU hW => ⟨rfl, mU_mv hm hU hW⟩⟩ rfl rfl hl.1 rfl (lv_room (Nat.le_of_ble_eq_true rfl)) dX7_left_147 ⟨Nat.zero_le _, Nat.zero_le _⟩)) (fun r_147 hr_147 => ?_)
                  subst hr_147
                  refine lv_lload hx hb dX7_left_150 (lv_at hl 5 rfl) ?_
                  refine lv_aload_n hx hb dX7_left_152 rfl (lv_at hl 0 rfl) ?_
                  refine lv_iload_n hx hb dX7_left_153 rfl (lv_at hl 1 rfl) ?_
                  refine lv_lload hx hb dX7_left_154 (lv_at hl 3 rfl) ?_
                  refine vp_callSi (va_Run.run (va_runV (As := [.int (nI k), .long x2]) (rest := [.long q8, .int (f_X7_minus k x1), .int (nI k), .ref o]) ⟨hx, hb, hml, hown, hts⟩ (c_X7_power l o r k h_k x2 (kpos h_k hc2 c_16 c_35)) (cwV 2 hts (gV iX7_power (zin__r12 (.methodLink RX7 122 yX7_power) (List.mem_of_getElem? (i := 23) rfl))) rfl rfl rfl (by decide +kernel) ⟨Nat.le_of_ble_eq_true rfl, Nat.le_of_ble_eq_true rfl⟩) ⟨fun a U g mk q => ⟨q.1, mU_bl q.2⟩, (mU_rv hm), fun U hU hW => ⟨rfl, mU_mv hm hU hW⟩⟩ rfl rfl hl.1 rfl (lv_room (Nat.le_of_ble_eq_true rfl)) dX7_left_156 ⟨Nat.zero_le _, Nat.zero_le _⟩)) (fun r_156 hr_156 => ?_)
                  subst hr_156
                  refine lv_iconst (v := 0) hx hb dX7_left_159 (by decide) ?_
                  refine vp_callSl (va_Run.run (va_runV (As := [.int (nI k), .int (f_X7_minus k x1), .long q8, .int (f_X7_power k x2), .int (0 : Int32)]) (rest := []) ⟨hx, hb, hml, hown, hts⟩ (c_X7_round l o r k h_k (f_X7_minus k x1) q8 (f_X7_power k x2) (0 : Int32)) (cwV 5 hts (gV iX7_round (zin__r10 (.methodLink RX7 125 yX7_round) (List.mem_of_getElem? (i := 1) rfl))) rfl rfl rfl (by decide +kernel) ⟨Nat.le_of_ble_eq_true rfl, Nat.le_of_ble_eq_true rfl⟩) ⟨fun a U g mk q => ⟨q.1, mU_bl q.2⟩, (mU_rv hm), fun U hU hW => ⟨rfl, mU_mv hm hU hW⟩⟩ rfl rfl hl.1 rfl (lv_room (Nat.le_of_ble_eq_true rfl)) dX7_left_160 ⟨Nat.zero_le _, Nat.zero_le _⟩)) (fun r_160 hr_160 => ?_)
                  subst hr_160
                  exact W.lret hx hb hr (fun t ht hW => ⟨_, rfl, hf.symm, ht⟩) (fun q hq => absurd hq List.not_mem_nil) dX7_left_163
                · have c_124 : q8 = (0 : Int64) := (lg_cmp_eq q8 (0 : Int64)).mp c_124
                  have hf : f_X7_left k x1 x2 = (f_X7_signed k (0 : Int64) (f_X7_minus k x1)) := hf.trans (if_pos c_124)
                  refine lv_aload_n hx hb dX7_left_127 rfl (lv_at hl 0 rfl) ?_
                  refine lv_iload_n hx hb dX7_left_128 rfl (lv_at hl 1 rfl) ?_
                  refine lv_lconst (v := 0) hx hb dX7_left_129 (by decide) ?_
                  refine lv_aload_n hx hb dX7_left_130 rfl (lv_at hl 0 rfl) ?_
                  refine lv_iload_n hx hb dX7_left_131 rfl (lv_at hl 1 rfl) ?_
                  refine lv_lload_n hx hb dX7_left_132 rfl (lv_at hl 2 rfl) ?_
                  refine vp_callSi (va_Run.run (va_runV (As := [.int (nI k), .long x1]) (rest := [.long (0 : Int64), .int (nI k), .ref o]) ⟨hx, hb, hml, hown, hts⟩ (c_X7_minus l o r k h_k x1) (cwV 2 hts (gV iX7_minus (zin__r8 (.methodLink RX7 108 yX7_minus) (List.mem_of_getElem? (i := 5) rfl))) rfl rfl rfl (by decide +kernel) ⟨Nat.le_of_ble_eq_true rfl, Nat.le_of_ble_eq_true rfl⟩) ⟨fun a U g mk q => ⟨q.1, mU_bl q.2⟩, (mU_rv hm), fun U hU hW => ⟨rfl, mU_mv hm hU hW⟩⟩ rfl rfl hl.1 rfl (lv_room (Nat.le_of_ble_eq_true rfl)) dX7_left_133 ⟨Nat.zero_le _, Nat.zero_le _⟩)) (fun r_133 hr_133 => ?_)
                  subst hr_133
                  refine vp_callSl (va_Run.run (va_runV (As := [.int (nI k), .long (0 : Int64), .int (f_X7_minus k x1)]) (rest := []) ⟨hx, hb, hml, hown, hts⟩ (c_X7_signed l o r k h_k (0 : Int64) (f_X7_minus k x1)) (cwV 3 hts (gV iX7_signed (zin__r10 (.methodLink RX7 111 yX7_signed) (List.mem_of_getElem? (i := 5) rfl))) rfl rfl rfl (by decide +kernel) ⟨Nat.le_of_ble_eq_true rfl, Nat.le_of_ble_eq_true rfl⟩) ⟨fun a U g mk q => ⟨q.1, mU_bl q.2⟩, (mU_rv hm), fun U hU hW => ⟨rfl, mU_mv hm hU hW⟩⟩ rfl rfl hl.1 rfl (lv_room (Nat.le_of_ble_eq_true rfl)) dX7_left_136 ⟨Nat.zero_le _, Nat.zero_le _⟩)) (fun r_136 hr_136 => ?_)
                  subst hr_136
                  refine lv_goto (tgt := 163) hx hb dX7_left_139 (by decide) ?_
                  exact W.lret hx hb hr (fun t ht hW => ⟨_, rfl, hf.symm, ht⟩) (fun q hq => absurd hq List.not_mem_nil) dX7_left_163
              · have hf : f_X7_left k x1 x2 = (rec_100 (jlrem (jlshl q8 (1 : Int32)) v6_1) (q10 + (-1 : Int32))) := hf.trans (if_neg c_102)
                refine lv_lload hx hb dX7_left_105 (lv_at hl 5 rfl) ?_
                refine lv_iconst (v := 1) hx hb dX7_left_107 (by decide) ?_
                refine lv_lshl (v := (jlshl q8 (1 : Int32))) hx hb dX7_left_108 rfl ?_
                refine lv_lload hx hb dX7_left_109 (lv_at hl 4 rfl) ?_
                refine lv_lrem hx hb dX7_left_111 (by rw [e_v6_1]; exact mant_ne h_k (kpos h_k hc2 c_16 c_35)) ?_
                refine lv_topl (fun v8_4 e_v8_4 => ?_)
                have hf : f_X7_left k x1 x2 = (rec_100 v8_4 (q10 + (-1 : Int32))) := hf.trans (congrArg (fun z => (rec_100 z (q10 + (-1 : Int32)))) e_v8_4.symm)
                refine lv_lstore (lv' := [(8, .long v8_4), (0, .ref o), (1, .int (nI k)), (2, .long x1), (4, .long x2), (6, .long v6_1), (10, .int q10)]) hx hb dX7_left_112 hl (by decide) rfl (fun ls hl => ?_)
                obtain ⟨v10_5, e_v10_5⟩ : ∃ y : Int32, y = (q10 + (-1 : Int32)) := ⟨_, rfl⟩
                refine lv_iinc (v := v10_5) (lv' := [(10, .int v10_5), (8, .long v8_4), (0, .ref o), (1, .int (nI k)), (2, .long x1), (4, .long x2), (6, .long v6_1)]) hx hb dX7_left_114 hl (k := 6) rfl (by rw [e_v10_5]; rfl) (by decide) rfl (fun ls hl => ?_)
                have hf : f_X7_left k x1 x2 = (rec_100 v8_4 v10_5) := hf.trans (congrArg (fun z => (rec_100 v8_4 z)) e_v10_5.symm)
                refine lv_goto (tgt := 100) hx hb dX7_left_117 (by decide) ?_
                exact ih_100 (v8_4, v10_5) ls ⟨hf.trans (congrFun (congrFun hrec_100 _) _), (by rw [e_v10_5]; exact dec_step hI c_102)⟩ (lv_sub hl [2, 3, 4, 5, 6, 1, 0] rfl)
          · have c_59 : ¬ ((f_X7_unsigned k x2) ≤ (f_X7_unsigned k x1)) := fun h9 => c_59 ((lg_cmp_ge (f_X7_unsigned k x1) (f_X7_unsigned k x2)).mpr h9)
            have hf : f_X7_left k x1 x2 = x1 := hf.trans (if_neg c_59)
            refine lv_lload_n hx hb dX7_left_62 rfl (lv_at hl 2 rfl) ?_
            exact W.lret hx hb hr (fun t ht hW => ⟨_, rfl, hf.symm, ht⟩) (fun q hq => absurd hq List.not_mem_nil) dX7_left_63
        · have hf : f_X7_left k x1 x2 = (f_X7_left_1 k) := hf.trans (if_neg c_35)
          exact K_38 () ls hf (lv_sub hl [0, 1] rfl)
def f_X7_wholeOf_1 (k : Nat) (v5_1 : Int32) (v9_8 : Int64) : Int64 := if v9_8 = (0 : Int64) then (f_X7_signed k (0 : Int64) v5_1) else (f_X7_round k v5_1 v9_8 (0 : Int32) (0 : Int32))
def f_X7_wholeOf_2 (k : Nat) (v5_1 : Int32) (w_4 : Int64) (v12_7 : Int32) : Int64 := if v12_7 = 0 then (f_X7_wholeOf_1 k v5_1 w_4) else (f_X7_wholeOf_1 k v5_1 (w_4 + (1 : Int64)))
def f_X7_wholeOf_3 (k : Nat) (v5_1 : Int32) (w_4 : Int64) : Int64 := (f_X7_wholeOf_2 k v5_1 w_4 (1 : Int32))
def f_X7_wholeOf_4 (k : Nat) (v5_1 : Int32) (w_4 : Int64) : Int64 := (f_X7_wholeOf_2 k v5_1 w_4 (0 : Int32))
def f_X7_wholeOf_5 (k : Nat) (v5_1 : Int32) (w_4 : Int64) : Int64 := if (w_4 &&& (1 : Int64)) = (1 : Int64) then (f_X7_wholeOf_3 k v5_1 w_4) else (f_X7_wholeOf_4 k v5_1 w_4)
def f_X7_wholeOf_6 (k : Nat) (v5_1 : Int32) (w_4 : Int64) (v13_10 : Int64) (v15_11 : Int64) : Int64 := if v13_10 = v15_11 then (f_X7_wholeOf_5 k v5_1 w_4) else (f_X7_wholeOf_4 k v5_1 w_4)
def f_X7_wholeOf_7 (k : Nat) (v5_1 : Int32) (w_4 : Int64) (v13_10 : Int64) (v15_11 : Int64) : Int64 := if v15_11 < v13_10 then (f_X7_wholeOf_3 k v5_1 w_4) else (f_X7_wholeOf_6 k v5_1 w_4 v13_10 v15_11)
def f_X7_wholeOf_8 (k : Nat) (v5_1 : Int32) (v6_2 : Int64) (v8_3 : Int32) (w_4 : Int64) (w_6 : Int32) : Int64 := if (62 : Int32) < v8_3 then (f_X7_wholeOf_2 k v5_1 w_4 w_6) else (f_X7_wholeOf_7 k v5_1 w_4 (v6_2 - (jlshl w_4 v8_3)) (jlshl (1 : Int64) (v8_3 - (1 : Int32))))
def f_X7_wholeOf_9 (k : Nat) (x2 : Int32) (v5_1 : Int32) (v6_2 : Int64) (v8_3 : Int32) (w_4 : Int64) (w_6 : Int32) : Int64 := if x2 = (5 : Int32) then (f_X7_wholeOf_8 k v5_1 v6_2 v8_3 w_4 w_6) else (f_X7_wholeOf_2 k v5_1 w_4 w_6)
def f_X7_wholeOf_10 (k : Nat) (x2 : Int32) (v5_1 : Int32) (v6_2 : Int64) (v8_3 : Int32) (w_4 : Int64) : Int64 := (f_X7_wholeOf_9 k x2 v5_1 v6_2 v8_3 w_4 (0 : Int32))
def f_X7_wholeOf_11 (k : Nat) (x2 : Int32) (v5_1 : Int32) (v6_2 : Int64) (v8_3 : Int32) (w_4 : Int64) : Int64 := (f_X7_wholeOf_9 k x2 v5_1 v6_2 v8_3 w_4 (1 : Int32))
def f_X7_wholeOf_12 (k : Nat) (x2 : Int32) (v5_1 : Int32) (v6_2 : Int64) (v8_3 : Int32) (w_4 : Int64) : Int64 := if v5_1 = 0 then (f_X7_wholeOf_11 k x2 v5_1 v6_2 v8_3 w_4) else (f_X7_wholeOf_10 k x2 v5_1 v6_2 v8_3 w_4)
def f_X7_wholeOf_13 (k : Nat) (x2 : Int32) (v5_1 : Int32) (v6_2 : Int64) (v8_3 : Int32) (w_4 : Int64) : Int64 := if x2 = (4 : Int32) then (f_X7_wholeOf_12 k x2 v5_1 v6_2 v8_3 w_4) else (f_X7_wholeOf_10 k x2 v5_1 v6_2 v8_3 w_4)
def f_X7_wholeOf_14 (k : Nat) (x2 : Int32) (v5_1 : Int32) (v6_2 : Int64) (v8_3 : Int32) (w_4 : Int64) : Int64 := if v5_1 = 0 then (f_X7_wholeOf_13 k x2 v5_1 v6_2 v8_3 w_4) else (f_X7_wholeOf_11 k x2 v5_1 v6_2 v8_3 w_4)
def f_X7_wholeOf_15 (k : Nat) (x2 : Int32) (v5_1 : Int32) (v6_2 : Int64) (v8_3 : Int32) (w_4 : Int64) : Int64 := if x2 = (3 : Int32) then (f_X7_wholeOf_14 k x2 v5_1 v6_2 v8_3 w_4) else (f_X7_wholeOf_13 k x2 v5_1 v6_2 v8_3 w_4)
def f_X7_wholeOf_16 (k : Nat) (x2 : Int32) (v5_1 : Int32) (v6_2 : Int64) (v8_3 : Int32) (w_4 : Int64) (w_5 : Int32) : Int64 := if w_5 = 0 then (f_X7_wholeOf_10 k x2 v5_1 v6_2 v8_3 w_4) else (f_X7_wholeOf_15 k x2 v5_1 v6_2 v8_3 w_4)
def f_X7_wholeOf_17 (k : Nat) (x2 : Int32) (v5_1 : Int32) (v6_2 : Int64) (v8_3 : Int32) (w_4 : Int64) : Int64 := (f_X7_wholeOf_16 k x2 v5_1 v6_2 v8_3 w_4 (1 : Int32))
def f_X7_wholeOf_18 (k : Nat) (x2 : Int32) (v5_1 : Int32) (v6_2 : Int64) (v8_3 : Int32) (w_4 : Int64) : Int64 := if (jlshl w_4 v8_3) = v6_2 then (f_X7_wholeOf_16 k x2 v5_1 v6_2 v8_3 w_4 (0 : Int32)) else (f_X7_wholeOf_17 k x2 v5_1 v6_2 v8_3 w_4)
def f_X7_wholeOf_19 (k : Nat) (x2 : Int32) (v5_1 : Int32) (v6_2 : Int64) (v8_3 : Int32) (w_4 : Int64) : Int64 := if (62 : Int32) < v8_3 then (f_X7_wholeOf_17 k x2 v5_1 v6_2 v8_3 w_4) else (f_X7_wholeOf_18 k x2 v5_1 v6_2 v8_3 w_4)
def f_X7_wholeOf_20 (k : Nat) (x2 : Int32) (v5_1 : Int32) (v6_2 : Int64) (v8_3 : Int32) : Int64 := if v8_3 ≤ (62 : Int32) then (f_X7_wholeOf_19 k x2 v5_1 v6_2 v8_3 (jlshr v6_2 v8_3)) else (f_X7_wholeOf_19 k x2 v5_1 v6_2 v8_3 (0 : Int64))
def f_X7_wholeOf_21 (k : Nat) (x1 : Int64) (x2 : Int32) : Int64 := if (f_X7_power k x1) < 0 then (f_X7_wholeOf_20 k x2 (f_X7_minus k x1) (f_X7_mantissa k x1) (-(f_X7_power k x1))) else x1
def f_X7_wholeOf_22 (k : Nat) (x1 : Int64) (x2 : Int32) : Int64 := if (f_X7_zero k x1) = 0 then (f_X7_wholeOf_21 k x1 x2) else x1
def f_X7_wholeOf_23 (k : Nat) (x1 : Int64) (x2 : Int32) : Int64 := if (f_X7_infinite k x1) = 0 then (f_X7_wholeOf_22 k x1 x2) else x1
def f_X7_wholeOf_24 (k : Nat) (x1 : Int64) (x2 : Int32) : Int64 := if (f_X7_none k x1) = 0 then (f_X7_wholeOf_23 k x1 x2) else x1
def f_X7_wholeOf (k : Nat) (x1 : Int64) (x2 : Int32) : Int64 := (f_X7_wholeOf_24 k x1 x2)
def zX7_wholeOf : List Cond := .code yX7_wholeOf cX7_wholeOf 17 (some .long) :: zall
theorem iX7_wholeOf : MWv RX7 yX7_wholeOf (.code yX7_wholeOf cX7_wholeOf 17 (some .long)) := ⟨(zin__r20 (.instanceMethod yX7_wholeOf) (List.mem_of_getElem? (i := 23) rfl)), (zin__r21 (.selects RX7 yX7_wholeOf yX7_wholeOf) (List.mem_of_getElem? (i := 0) rfl)), (zin__r1 (.initialized RX7) (List.mem_of_getElem? (i := 5) rfl)), (zin__r21 (.code yX7_wholeOf cX7_wholeOf 17 (some .long)) (List.mem_of_getElem? (i := 1) rfl))⟩
set_option maxHeartbeats 4000000 in
set_option maxRecDepth 100000 in
theorem c_X7_wholeOf (l : Launch) (o : Nat) (r : Nat → Nat) (k : Nat) (h_k : k < 2) (x1 : Int64) (x2 : Int32) (hc1 : kcn k x1) : Met l yX7_wholeOf zX7_wholeOf ({ frames := 2, cells := 0, slots := 0, locals := 59 }) (va_Pc [.ref o, .int (nI k), .long x1, .int x2] (fun U => mU o r U)) (vp_Sl (fun r => r = f_X7_wholeOf k x1 x2)) 0 0 (fun _ => False) := by
  refine Met.ofW (cc := cX7_wholeOf) (maxL := 17) (ret := (some .long)) (by decide) rfl ?_
  intro p e s m args below meth c s₁ B hml hv
  obtain ⟨rfl, hm⟩ := hv
  have hx := B.exec
  have hb := B.bytes
  have hr := B.returns
  have hts : ∀ w ∈ zall, w.before _ s = true := fun w h => atoms_spec (ws := zX7_wholeOf) B.pre w (List.mem_cons_of_mem _ h)
  have hown : s.vm.findClass RX7 = some m.cls := findClass_of_methodNamed B.named
  have hlocks := B.notSynchronized
  have hl := lv_entry ([.ref o, .int (nI k), .long x1, .int x2]) (n := 17) (Nat.le_of_ble_eq_true rfl)
  rw [lg_entry_eq]
  generalize (lg_sl ([.ref o, .int (nI k), .long x1, .int x2]) ++ List.replicate (17 - (lg_sl ([.ref o, .int (nI k), .long x1, .int x2])).length) Slot.unset).toArray = ls at hl ⊢
  have hl : lv_has ls 17 [(0, .ref o), (1, .int (nI k)), (2, .long x1), (4, .int x2)] := hl
  have hf : f_X7_wholeOf k x1 x2 = (f_X7_wholeOf_24 k x1 x2) := rfl
  refine lv_aload_n hx hb dX7_wholeOf_0 rfl (lv_at hl 0 rfl) ?_
  refine lv_iload_n hx hb dX7_wholeOf_1 rfl (lv_at hl 1 rfl) ?_
  refine lv_lload_n hx hb dX7_wholeOf_2 rfl (lv_at hl 2 rfl) ?_
  refine vp_callSi (va_Run.run (va_runV (As := [.int (nI k), .long x1]) (rest := []) ⟨hx, hb, hml, hown, hts⟩ (c_X7_none l o r k h_k x1) (cwV 2 hts (gV iX7_none (zin__r7 (.methodLink RX7 98 yX7_none) (List.mem_of_getElem? (i := 17) rfl))) rfl rfl rfl (by decide +kernel) ⟨Nat.le_of_ble_eq_true rfl, Nat.le_of_ble_eq_true rfl⟩) ⟨fun a U g mk q => ⟨q.1, mU_bl q.2⟩, (mU_rv hm), fun U hU hW => ⟨rfl, mU_mv hm hU hW⟩⟩ rfl rfl hl.1 rfl (lv_room (Nat.le_of_ble_eq_true rfl)) dX7_wholeOf_3 ⟨Nat.zero_le _, Nat.zero_le _⟩)) (fun r_3 hr_3 => ?_)
  subst hr_3
  refine lv_if_ne (tgt := 36) hx hb dX7_wholeOf_6 (by decide) (fun c_6 => ?_) (fun c_6 => ?_)
  · have hf : f_X7_wholeOf k x1 x2 = x1 := hf.trans (if_neg c_6)
    refine lv_lload_n hx hb dX7_wholeOf_36 rfl (lv_at hl 2 rfl) ?_
    exact W.lret hx hb hr (fun t ht hW => ⟨_, rfl, hf.symm, ht⟩) (fun q hq => absurd hq List.not_mem_nil) dX7_wholeOf_37
  · have hf : f_X7_wholeOf k x1 x2 = (f_X7_wholeOf_23 k x1 x2) := hf.trans (if_pos c_6)
    refine lv_aload_n hx hb dX7_wholeOf_9 rfl (lv_at hl 0 rfl) ?_
    refine lv_iload_n hx hb dX7_wholeOf_10 rfl (lv_at hl 1 rfl) ?_
    refine lv_lload_n hx hb dX7_wholeOf_11 rfl (lv_at hl 2 rfl) ?_
    refine vp_callSi (va_Run.run (va_runV (As := [.int (nI k), .long x1]) (rest := []) ⟨hx, hb, hml, hown, hts⟩ (c_X7_infinite l o r k h_k x1) (cwV 2 hts (gV iX7_infinite (zin__r8 (.methodLink RX7 105 yX7_infinite) (List.mem_of_getElem? (i := 1) rfl))) rfl rfl rfl (by decide +kernel) ⟨Nat.le_of_ble_eq_true rfl, Nat.le_of_ble_eq_true rfl⟩) ⟨fun a U g mk q => ⟨q.1, mU_bl q.2⟩, (mU_rv hm), fun U hU hW => ⟨rfl, mU_mv hm hU hW⟩⟩ rfl rfl hl.1 rfl (lv_room (Nat.le_of_ble_eq_true rfl)) dX7_wholeOf_12 ⟨Nat.zero_le _, Nat.zero_le _⟩)) (fun r_12 hr_12 => ?_)
    subst hr_12
    refine lv_if_ne (tgt := 36) hx hb dX7_wholeOf_15 (by decide) (fun c_15 => ?_) (fun c_15 => ?_)
    · have hf : f_X7_wholeOf k x1 x2 = x1 := hf.trans (if_neg c_15)
      refine lv_lload_n hx hb dX7_wholeOf_36 rfl (lv_at hl 2 rfl) ?_
      exact W.lret hx hb hr (fun t ht hW => ⟨_, rfl, hf.symm, ht⟩) (fun q hq => absurd hq List.not_mem_nil) dX7_wholeOf_37
    · have hf : f_X7_wholeOf k x1 x2 = (f_X7_wholeOf_22 k x1 x2) := hf.trans (if_pos c_15)
      refine lv_aload_n hx hb dX7_wholeOf_18 rfl (lv_at hl 0 rfl) ?_
      refine lv_iload_n hx hb dX7_wholeOf_19 rfl (lv_at hl 1 rfl) ?_
      refine lv_lload_n hx hb dX7_wholeOf_20 rfl (lv_at hl 2 rfl) ?_
      refine vp_callSi (va_Run.run (va_runV (As := [.int (nI k), .long x1]) (rest := []) ⟨hx, hb, hml, hown, hts⟩ (c_X7_zero l o r k h_k x1) (cwV 2 hts (gV iX7_zero (zin__r7 (.methodLink RX7 102 yX7_zero) (List.mem_of_getElem? (i := 21) rfl))) rfl rfl rfl (by decide +kernel) ⟨Nat.le_of_ble_eq_true rfl, Nat.le_of_ble_eq_true rfl⟩) ⟨fun a U g mk q => ⟨q.1, mU_bl q.2⟩, (mU_rv hm), fun U hU hW => ⟨rfl, mU_mv hm hU hW⟩⟩ rfl rfl hl.1 rfl (lv_room (Nat.le_of_ble_eq_true rfl)) dX7_wholeOf_21 ⟨Nat.zero_le _, Nat.zero_le _⟩)) (fun r_21 hr_21 => ?_)
      subst hr_21
      refine lv_if_ne (tgt := 36) hx hb dX7_wholeOf_24 (by decide) (fun c_24 => ?_) (fun c_24 => ?_)
      · have hf : f_X7_wholeOf k x1 x2 = x1 := hf.trans (if_neg c_24)
        refine lv_lload_n hx hb dX7_wholeOf_36 rfl (lv_at hl 2 rfl) ?_
        exact W.lret hx hb hr (fun t ht hW => ⟨_, rfl, hf.symm, ht⟩) (fun q hq => absurd hq List.not_mem_nil) dX7_wholeOf_37
      · have hf : f_X7_wholeOf k x1 x2 = (f_X7_wholeOf_21 k x1 x2) := hf.trans (if_pos c_24)
        refine lv_aload_n hx hb dX7_wholeOf_27 rfl (lv_at hl 0 rfl) ?_
        refine lv_iload_n hx hb dX7_wholeOf_28 rfl (lv_at hl 1 rfl) ?_
        refine lv_lload_n hx hb dX7_wholeOf_29 rfl (lv_at hl 2 rfl) ?_
        refine vp_callSi (va_Run.run (va_runV (As := [.int (nI k), .long x1]) (rest := []) ⟨hx, hb, hml, hown, hts⟩ (c_X7_power l o r k h_k x1 (kpos h_k hc1 c_6 c_24)) (cwV 2 hts (gV iX7_power (zin__r12 (.methodLink RX7 122 yX7_power) (List.mem_of_getElem? (i := 23) rfl))) rfl rfl rfl (by decide +kernel) ⟨Nat.le_of_ble_eq_true rfl, Nat.le_of_ble_eq_true rfl⟩) ⟨fun a U g mk q => ⟨q.1, mU_bl q.2⟩, (mU_rv hm), fun U hU hW => ⟨rfl, mU_mv hm hU hW⟩⟩ rfl rfl hl.1 rfl (lv_room (Nat.le_of_ble_eq_true rfl)) dX7_wholeOf_30 ⟨Nat.zero_le _, Nat.zero_le _⟩)) (fun r_30 hr_30 => ?_)
        subst hr_30
        refine lv_if_lt (tgt := 38) hx hb dX7_wholeOf_33 (by decide) (fun c_33 => ?_) (fun c_33 => ?_)
        · have hf : f_X7_wholeOf k x1 x2 = (f_X7_wholeOf_20 k x2 (f_X7_minus k x1) (f_X7_mantissa k x1) (-(f_X7_power k x1))) := hf.trans (if_pos c_33)
          refine lv_aload_n hx hb dX7_wholeOf_38 rfl (lv_at hl 0 rfl) ?_
          refine lv_iload_n hx hb dX7_wholeOf_39 rfl (lv_at hl 1 rfl) ?_
          refine lv_lload_n hx hb dX7_wholeOf_40 rfl (lv_at hl 2 rfl) ?_
          refine vp_callSi (va_Run.run (va_runV (As := [.int (nI k), .long x1]) (rest := []) ⟨hx, hb, hml, hown, hts⟩ (c_X7_minus l o r k h_k x1) (cwV 2 hts (gV iX7_minus (zin__r8 (.methodLink RX7 108 yX7_minus) (List.mem_of_getElem? (i := 5) rfl))) rfl rfl rfl (by decide +kernel) ⟨Nat.le_of_ble_eq_true rfl, Nat.le_of_ble_eq_true rfl⟩) ⟨fun a U g mk q => ⟨q.1, mU_bl q.2⟩, (mU_rv hm), fun U hU hW => ⟨rfl, mU_mv hm hU hW⟩⟩ rfl rfl hl.1 rfl (lv_room (Nat.le_of_ble_eq_true rfl)) dX7_wholeOf_41 ⟨Nat.zero_le _, Nat.zero_le _⟩)) (fun r_41 hr_41 => ?_)
          subst hr_41
          refine lv_topi (fun v5_1 e_v5_1 => ?_)
          have hf : f_X7_wholeOf k x1 x2 = (f_X7_wholeOf_20 k x2 v5_1 (f_X7_mantissa k x1) (-(f_X7_power k x1))) := hf.trans (congrArg (fun z => (f_X7_wholeOf_20 k x2 z (f_X7_mantissa k x1) (-(f_X7_power k x1)))) e_v5_1.symm)
          refine lv_istore (lv' := [(5, .int v5_1), (0, .ref o), (1, .int (nI k)), (2, .long x1), (4, .int x2)]) hx hb dX7_wholeOf_44 hl (by decide) rfl (fun ls hl => ?_)
          refine lv_aload_n hx hb dX7_wholeOf_46 rfl (lv_at hl 1 rfl) ?_
          refine lv_iload_n hx hb dX7_wholeOf_47 rfl (lv_at hl 2 rfl) ?_
          refine lv_lload_n hx hb dX7_wholeOf_48 rfl (lv_at hl 3 rfl) ?_
          refine vp_callSl (va_Run.run (va_runV (As := [.int (nI k), .long x1]) (rest := []) ⟨hx, hb, hml, hown, hts⟩ (c_X7_mantissa l o r k h_k x1 (kpos h_k hc1 c_6 c_24)) (cwV 2 hts (gV iX7_mantissa (zin__r13 (.methodLink RX7 119 yX7_mantissa) (List.mem_of_getElem? (i := 3) rfl))) rfl rfl rfl (by decide +kernel) ⟨Nat.le_of_ble_eq_true rfl, Nat.le_of_ble_eq_true rfl⟩) ⟨fun a U g mk q => ⟨q.1, mU_bl q.2⟩, (mU_rv hm), fun U hU hW => ⟨rfl, mU_mv hm hU hW⟩⟩ rfl rfl hl.1 rfl (lv_room (Nat.le_of_ble_eq_true rfl)) dX7_wholeOf_49 ⟨Nat.zero_le _, Nat.zero_le _⟩)) (fun r_49 hr_49 => ?_)
          subst hr_49
          refine lv_topl (fun v6_2 e_v6_2 => ?_)
          have hf : f_X7_wholeOf k x1 x2 = (f_X7_wholeOf_20 k x2 v5_1 v6_2 (-(f_X7_power k x1))) := hf.trans (congrArg (fun z => (f_X7_wholeOf_20 k x2 v5_1 z (-(f_X7_power k x1)))) e_v6_2.symm)
          refine lv_lstore (lv' := [(6, .long v6_2), (5, .int v5_1), (0, .ref o), (1, .int (nI k)), (2, .long x1), (4, .int x2)]) hx hb dX7_wholeOf_52 hl (by decide) rfl (fun ls hl => ?_)
          refine lv_aload_n hx hb dX7_wholeOf_54 rfl (lv_at hl 2 rfl) ?_
          refine lv_iload_n hx hb dX7_wholeOf_55 rfl (lv_at hl 3 rfl) ?_
          refine lv_lload_n hx hb dX7_wholeOf_56 rfl (lv_at hl 4 rfl) ?_
          refine vp_callSi (va_Run.run (va_runV (As := [.int (nI k), .long x1]) (rest := []) ⟨hx, hb, hml, hown, hts⟩ (c_X7_power l o r k h_k x1 (kpos h_k hc1 c_6 c_24)) (cwV 2 hts (gV iX7_power (zin__r12 (.methodLink RX7 122 yX7_power) (List.mem_of_getElem? (i := 23) rfl))) rfl rfl rfl (by decide +kernel) ⟨Nat.le_of_ble_eq_true rfl, Nat.le_of_ble_eq_true rfl⟩) ⟨fun a U g mk q => ⟨q.1, mU_bl q.2⟩, (mU_rv hm), fun U hU hW => ⟨rfl, mU_mv hm hU hW⟩⟩ rfl rfl hl.1 rfl (lv_room (Nat.le_of_ble_eq_true rfl)) dX7_wholeOf_57 ⟨Nat.zero_le _, Nat.zero_le _⟩)) (fun r_57 hr_57 => ?_)
          subst hr_57
          refine lv_ineg hx hb dX7_wholeOf_60 ?_
          refine lv_topi (fun v8_3 e_v8_3 => ?_)
          have hf : f_X7_wholeOf k x1 x2 = (f_X7_wholeOf_20 k x2 v5_1 v6_2 v8_3) := hf.trans (congrArg (fun z => (f_X7_wholeOf_20 k x2 v5_1 v6_2 z)) e_v8_3.symm)
          refine lv_istore (lv' := [(8, .int v8_3), (6, .long v6_2), (5, .int v5_1), (0, .ref o), (1, .int (nI k)), (2, .long x1), (4, .int x2)]) hx hb dX7_wholeOf_61 hl (by decide) rfl (fun ls hl => ?_)
          refine lv_iload hx hb dX7_wholeOf_63 (lv_at hl 0 rfl) ?_
          refine lv_bipush (v := 62) hx hb dX7_wholeOf_65 (by decide) ?_
          refine W_cut (α := Int64) (pcJ := 79) (nL := 17) (fun v => f_X7_wholeOf k x1 x2 = (f_X7_wholeOf_19 k x2 v5_1 v6_2 v8_3 v)) (fun v => [.long v]) (fun v => [(0, .ref o), (1, .int (nI k)), (4, .int x2), (5, .int v5_1), (6, .long v6_2), (8, .int v8_3)]) (fun w_4 ls hf hl => ?_) (fun K_79 => ?_)
          · have hf : f_X7_wholeOf k x1 x2 = (f_X7_wholeOf_19 k x2 v5_1 v6_2 v8_3 w_4) := hf
            have hl : lv_has ls 17 [(0, .ref o), (1, .int (nI k)), (4, .int x2), (5, .int v5_1), (6, .long v6_2), (8, .int v8_3)] := hl
            refine lv_lstore (lv' := [(9, .long w_4), (0, .ref o), (1, .int (nI k)), (4, .int x2), (5, .int v5_1), (6, .long v6_2), (8, .int v8_3)]) hx hb dX7_wholeOf_79 hl (by decide) rfl (fun ls hl => ?_)
            refine lv_iload hx hb dX7_wholeOf_81 (lv_at hl 6 rfl) ?_
            refine lv_bipush (v := 62) hx hb dX7_wholeOf_83 (by decide) ?_
            refine W_cut (α := Int32) (pcJ := 104) (nL := 17) (fun v => f_X7_wholeOf k x1 x2 = (f_X7_wholeOf_16 k x2 v5_1 v6_2 v8_3 w_4 v)) (fun v => [.int v]) (fun v => [(0, .ref o), (1, .int (nI k)), (4, .int x2), (5, .int v5_1), (6, .long v6_2), (8, .int v8_3), (9, .long w_4)]) (fun w_5 ls hf hl => ?_) (fun K_104 => ?_)
            · have hf : f_X7_wholeOf k x1 x2 = (f_X7_wholeOf_16 k x2 v5_1 v6_2 v8_3 w_4 w_5) := hf
              have hl : lv_has ls 17 [(0, .ref o), (1, .int (nI k)), (4, .int x2), (5, .int v5_1), (6, .long v6_2), (8, .int v8_3), (9, .long w_4)] := hl
              refine lv_istore (lv' := [(11, .int w_5), (0, .ref o), (1, .int (nI k)), (4, .int x2), (5, .int v5_1), (6, .long v6_2), (8, .int v8_3), (9, .long w_4)]) hx hb dX7_wholeOf_104 hl (by decide) rfl (fun ls hl => ?_)
              refine lv_iload hx hb dX7_wholeOf_106 (lv_at hl 0 rfl) ?_
              refine W_cut (α := Int32) (pcJ := 138) (nL := 17) (fun v => f_X7_wholeOf k x1 x2 = (f_X7_wholeOf_9 k x2 v5_1 v6_2 v8_3 w_4 v)) (fun v => [.int v]) (fun v => [(0, .ref o), (1, .int (nI k)), (4, .int x2), (5, .int v5_1), (6, .long v6_2), (8, .int v8_3), (9, .long w_4)]) (fun w_6 ls hf hl => ?_) (fun K_138 => ?_)
              · have hf : f_X7_wholeOf k x1 x2 = (f_X7_wholeOf_9 k x2 v5_1 v6_2 v8_3 w_4 w_6) := hf
                have hl : lv_has ls 17 [(0, .ref o), (1, .int (nI k)), (4, .int x2), (5, .int v5_1), (6, .long v6_2), (8, .int v8_3), (9, .long w_4)] := hl
                refine lv_istore (lv' := [(12, .int w_6), (0, .ref o), (1, .int (nI k)), (4, .int x2), (5, .int v5_1), (6, .long v6_2), (8, .int v8_3), (9, .long w_4)]) hx hb dX7_wholeOf_138 hl (by decide) rfl (fun ls hl => ?_)
                refine lv_iload hx hb dX7_wholeOf_140 (lv_at hl 3 rfl) ?_
                refine lv_iconst (v := 5) hx hb dX7_wholeOf_142 (by decide) ?_
                refine W_cut (α := Int32) (pcJ := 203) (nL := 17) (fun v => f_X7_wholeOf k x1 x2 = (f_X7_wholeOf_2 k v5_1 w_4 v)) (fun v => []) (fun v => [(0, .ref o), (1, .int (nI k)), (5, .int v5_1), (9, .long w_4), (12, .int v)]) (fun v12_7 ls hf hl => ?_) (fun K_203 => ?_)
                · have hf : f_X7_wholeOf k x1 x2 = (f_X7_wholeOf_2 k v5_1 w_4 v12_7) := hf
                  have hl : lv_has ls 17 [(0, .ref o), (1, .int (nI k)), (5, .int v5_1), (9, .long w_4), (12, .int v12_7)] := hl
                  refine lv_iload hx hb dX7_wholeOf_203 (lv_at hl 4 rfl) ?_
                  refine W_cut (α := Int64) (pcJ := 214) (nL := 17) (fun v => f_X7_wholeOf k x1 x2 = (f_X7_wholeOf_1 k v5_1 v)) (fun v => []) (fun v => [(0, .ref o), (1, .int (nI k)), (5, .int v5_1), (9, .long v)]) (fun v9_8 ls hf hl => ?_) (fun K_214 => ?_)
                  · have hf : f_X7_wholeOf k x1 x2 = (f_X7_wholeOf_1 k v5_1 v9_8) := hf
                    have hl : lv_has ls 17 [(0, .ref o), (1, .int (nI k)), (5, .int v5_1), (9, .long v9_8)] := hl
                    refine lv_lload hx hb dX7_wholeOf_214 (lv_at hl 3 rfl) ?_
                    refine lv_lconst (v := 0) hx hb dX7_wholeOf_216 (by decide) ?_
                    refine W.lcmp hx hb dX7_wholeOf_217 ?_
                    refine lv_if_ne (tgt := 232) hx hb dX7_wholeOf_218 (by decide) (fun c_218 => ?_) (fun c_218 => ?_)
                    · have c_218 : ¬ (v9_8 = (0 : Int64)) := fun h9 => c_218 ((lg_cmp_eq v9_8 (0 : Int64)).mpr h9)
                      have hf : f_X7_wholeOf k x1 x2 = (f_X7_round k v5_1 v9_8 (0 : Int32) (0 : Int32)) := hf.trans (if_neg c_218)
                      refine lv_aload_n hx hb dX7_wholeOf_232 rfl (lv_at hl 0 rfl) ?_
                      refine lv_iload_n hx hb dX7_wholeOf_233 rfl (lv_at hl 1 rfl) ?_
                      refine lv_iload hx hb dX7_wholeOf_234 (lv_at hl 2 rfl) ?_
                      refine lv_lload hx hb dX7_wholeOf_236 (lv_at hl 3 rfl) ?_
                      refine lv_iconst (v := 0) hx hb dX7_wholeOf_238 (by decide) ?_
                      refine lv_iconst (v := 0) hx hb dX7_wholeOf_239 (by decide) ?_
                      refine vp_callSl (va_Run.run (va_runV (As := [.int (nI k), .int v5_1, .long v9_8, .int (0 : Int32), .int (0 : Int32)]) (rest := []) ⟨hx, hb, hml, hown, hts⟩ (c_X7_round l o r k h_k v5_1 v9_8 (0 : Int32) (0 : Int32)) (cwV 5 hts (gV iX7_round (zin__r10 (.methodLink RX7 125 yX7_round) (List.mem_of_getElem? (i := 1) rfl))) rfl rfl rfl (by decide +kernel) ⟨Nat.le_of_ble_eq_true rfl, Nat.le_of_ble_eq_true rfl⟩) ⟨fun a U g mk q => ⟨q.1, mU_bl q.2⟩, (mU_rv hm), fun U hU hW => ⟨rfl, mU_mv hm hU hW⟩⟩ rfl rfl hl.1 rfl (lv_room (Nat.le_of_ble_eq_true rfl)) dX7_wholeOf_240 ⟨Nat.zero_le _, Nat.zero_le _⟩)) (fun r_240 hr_240 => ?_)
                      subst hr_240
                      exact W.lret hx hb hr (fun t ht hW => ⟨_, rfl, hf.symm, ht⟩) (fun q hq => absurd hq List.not_mem_nil) dX7_wholeOf_243
                    · have c_218 : v9_8 = (0 : Int64) := (lg_cmp_eq v9_8 (0 : Int64)).mp c_218
                      have hf : f_X7_wholeOf k x1 x2 = (f_X7_signed k (0 : Int64) v5_1) := hf.trans (if_pos c_218)
                      refine lv_aload_n hx hb dX7_wholeOf_221 rfl (lv_at hl 0 rfl) ?_
                      refine lv_iload_n hx hb dX7_wholeOf_222 rfl (lv_at hl 1 rfl) ?_
                      refine lv_lconst (v := 0) hx hb dX7_wholeOf_223 (by decide) ?_
                      refine lv_iload hx hb dX7_wholeOf_224 (lv_at hl 2 rfl) ?_
                      refine vp_callSl (va_Run.run (va_runV (As := [.int (nI k), .long (0 : Int64), .int v5_1]) (rest := []) ⟨hx, hb, hml, hown, hts⟩ (c_X7_signed l o r k h_k (0 : Int64) v5_1) (cwV 3 hts (gV iX7_signed (zin__r10 (.methodLink RX7 111 yX7_signed) (List.mem_of_getElem? (i := 5) rfl))) rfl rfl rfl (by decide +kernel) ⟨Nat.le_of_ble_eq_true rfl, Nat.le_of_ble_eq_true rfl⟩) ⟨fun a U g mk q => ⟨q.1, mU_bl q.2⟩, (mU_rv hm), fun U hU hW => ⟨rfl, mU_mv hm hU hW⟩⟩ rfl rfl hl.1 rfl (lv_room (Nat.le_of_ble_eq_true rfl)) dX7_wholeOf_226 ⟨Nat.zero_le _, Nat.zero_le _⟩)) (fun r_226 hr_226 => ?_)
                      subst hr_226
                      refine lv_goto (tgt := 243) hx hb dX7_wholeOf_229 (by decide) ?_
                      exact W.lret hx hb hr (fun t ht hW => ⟨_, rfl, hf.symm, ht⟩) (fun q hq => absurd hq List.not_mem_nil) dX7_wholeOf_243
                  refine lv_if_eq (tgt := 214) hx hb dX7_wholeOf_205 (by decide) (fun c_205 => ?_) (fun c_205 => ?_)
                  · have hf : f_X7_wholeOf k x1 x2 = (f_X7_wholeOf_1 k v5_1 w_4) := hf.trans (if_pos c_205)
                    exact K_214 w_4 ls hf (lv_sub hl [0, 1, 2, 3] rfl)
                  · have hf : f_X7_wholeOf k x1 x2 = (f_X7_wholeOf_1 k v5_1 (w_4 + (1 : Int64))) := hf.trans (if_neg c_205)
                    refine lv_lload hx hb dX7_wholeOf_208 (lv_at hl 3 rfl) ?_
                    refine lv_lconst (v := 1) hx hb dX7_wholeOf_210 (by decide) ?_
                    refine lv_ladd hx hb dX7_wholeOf_211 ?_
                    refine lv_topl (fun v9_9 e_v9_9 => ?_)
                    have hf : f_X7_wholeOf k x1 x2 = (f_X7_wholeOf_1 k v5_1 v9_9) := hf.trans (congrArg (fun z => (f_X7_wholeOf_1 k v5_1 z)) e_v9_9.symm)
                    refine lv_lstore (lv' := [(9, .long v9_9), (0, .ref o), (1, .int (nI k)), (5, .int v5_1), (12, .int v12_7)]) hx hb dX7_wholeOf_212 hl (by decide) rfl (fun ls hl => ?_)
                    exact K_214 v9_9 ls hf (lv_sub hl [1, 2, 3, 0] rfl)
                refine lv_icmp_ne (tgt := 203) hx hb dX7_wholeOf_143 (by decide) (fun c_143 => ?_) (fun c_143 => ?_)
                · have hf : f_X7_wholeOf k x1 x2 = (f_X7_wholeOf_2 k v5_1 w_4 w_6) := hf.trans (if_neg c_143)
                  exact K_203 w_6 ls hf (lv_sub hl [1, 2, 4, 7, 0] rfl)
                · have hf : f_X7_wholeOf k x1 x2 = (f_X7_wholeOf_8 k v5_1 v6_2 v8_3 w_4 w_6) := hf.trans (if_pos c_143)
                  refine lv_iload hx hb dX7_wholeOf_146 (lv_at hl 6 rfl) ?_
                  refine lv_bipush (v := 62) hx hb dX7_wholeOf_148 (by decide) ?_
                  refine lv_icmp_gt (tgt := 203) hx hb dX7_wholeOf_150 (by decide) (fun c_150 => ?_) (fun c_150 => ?_)
                  · have hf : f_X7_wholeOf k x1 x2 = (f_X7_wholeOf_2 k v5_1 w_4 w_6) := hf.trans (if_pos c_150)
                    exact K_203 w_6 ls hf (lv_sub hl [1, 2, 4, 7, 0] rfl)
                  · have hf : f_X7_wholeOf k x1 x2 = (f_X7_wholeOf_7 k v5_1 w_4 (v6_2 - (jlshl w_4 v8_3)) (jlshl (1 : Int64) (v8_3 - (1 : Int32)))) := hf.trans (if_neg c_150)
                    refine lv_lload hx hb dX7_wholeOf_153 (lv_at hl 5 rfl) ?_
                    refine lv_lload hx hb dX7_wholeOf_155 (lv_at hl 7 rfl) ?_
                    refine lv_iload hx hb dX7_wholeOf_157 (lv_at hl 6 rfl) ?_
                    refine lv_lshl (v := (jlshl w_4 v8_3)) hx hb dX7_wholeOf_159 rfl ?_
                    refine lv_lsub hx hb dX7_wholeOf_160 ?_
                    refine lv_topl (fun v13_10 e_v13_10 => ?_)
                    have hf : f_X7_wholeOf k x1 x2 = (f_X7_wholeOf_7 k v5_1 w_4 v13_10 (jlshl (1 : Int64) (v8_3 - (1 : Int32)))) := hf.trans (congrArg (fun z => (f_X7_wholeOf_7 k v5_1 w_4 z (jlshl (1 : Int64) (v8_3 - (1 : Int32))))) e_v13_10.symm)
                    refine lv_lstore (lv' := [(13, .long v13_10), (12, .int w_6), (0, .ref o), (1, .int (nI k)), (4, .int x2), (5, .int v5_1), (6, .long v6_2), (8, .int v8_3), (9, .long w_4)]) hx hb dX7_wholeOf_161 hl (by decide) rfl (fun ls hl => ?_)
                    refine lv_lconst (v := 1) hx hb dX7_wholeOf_163 (by decide) ?_
                    refine lv_iload hx hb dX7_wholeOf_164 (lv_at hl 7 rfl) ?_
                    refine lv_iconst (v := 1) hx hb dX7_wholeOf_166 (by decide) ?_
                    refine lv_isub hx hb dX7_wholeOf_167 ?_
                    refine lv_lshl (v := (jlshl (1 : Int64) (v8_3 - (1 : Int32)))) hx hb dX7_wholeOf_168 rfl ?_
                    refine lv_topl (fun v15_11 e_v15_11 => ?_)
                    have hf : f_X7_wholeOf k x1 x2 = (f_X7_wholeOf_7 k v5_1 w_4 v13_10 v15_11) := hf.trans (congrArg (fun z => (f_X7_wholeOf_7 k v5_1 w_4 v13_10 z)) e_v15_11.symm)
                    refine lv_lstore (lv' := [(15, .long v15_11), (13, .long v13_10), (12, .int w_6), (0, .ref o), (1, .int (nI k)), (4, .int x2), (5, .int v5_1), (6, .long v6_2), (8, .int v8_3), (9, .long w_4)]) hx hb dX7_wholeOf_169 hl (by decide) rfl (fun ls hl => ?_)
                    refine lv_lload hx hb dX7_wholeOf_171 (lv_at hl 1 rfl) ?_
                    refine lv_lload hx hb dX7_wholeOf_173 (lv_at hl 0 rfl) ?_
                    refine W.lcmp hx hb dX7_wholeOf_175 ?_
                    refine W_cut (α := Int32) (pcJ := 201) (nL := 17) (fun v => f_X7_wholeOf k x1 x2 = (f_X7_wholeOf_2 k v5_1 w_4 v)) (fun v => [.int v]) (fun v => [(0, .ref o), (1, .int (nI k)), (5, .int v5_1), (9, .long w_4)]) (fun w_12 ls hf hl => ?_) (fun K_201 => ?_)
                    · have hf : f_X7_wholeOf k x1 x2 = (f_X7_wholeOf_2 k v5_1 w_4 w_12) := hf
                      have hl : lv_has ls 17 [(0, .ref o), (1, .int (nI k)), (5, .int v5_1), (9, .long w_4)] := hl
                      refine lv_istore (lv' := [(12, .int w_12), (0, .ref o), (1, .int (nI k)), (5, .int v5_1), (9, .long w_4)]) hx hb dX7_wholeOf_201 hl (by decide) rfl (fun ls hl => ?_)
                      exact K_203 w_12 ls hf (lv_sub hl [1, 2, 3, 4, 0] rfl)
                    refine W_cut (α := Unit) (pcJ := 196) (nL := 17) (fun v => f_X7_wholeOf k x1 x2 = (f_X7_wholeOf_3 k v5_1 w_4)) (fun v => []) (fun v => [(0, .ref o), (1, .int (nI k)), (5, .int v5_1), (9, .long w_4)]) (fun v ls hf hl => ?_) (fun K_196 => ?_)
                    · have hf : f_X7_wholeOf k x1 x2 = (f_X7_wholeOf_2 k v5_1 w_4 (1 : Int32)) := hf
                      have hl : lv_has ls 17 [(0, .ref o), (1, .int (nI k)), (5, .int v5_1), (9, .long w_4)] := hl
                      refine lv_iconst (v := 1) hx hb dX7_wholeOf_196 (by decide) ?_
                      refine lv_goto (tgt := 201) hx hb dX7_wholeOf_197 (by decide) ?_
                      exact K_201 (1 : Int32) ls hf (lv_sub hl [0, 1, 2, 3] rfl)
                    refine lv_if_gt (tgt := 196) hx hb dX7_wholeOf_176 (by decide) (fun c_176 => ?_) (fun c_176 => ?_)
                    · have c_176 : v15_11 < v13_10 := (lg_cmp_gt v13_10 v15_11).mp c_176
                      have hf : f_X7_wholeOf k x1 x2 = (f_X7_wholeOf_3 k v5_1 w_4) := hf.trans (if_pos c_176)
                      exact K_196 () ls hf (lv_sub hl [3, 4, 6, 9] rfl)
                    · have c_176 : ¬ (v15_11 < v13_10) := fun h9 => c_176 ((lg_cmp_gt v13_10 v15_11).mpr h9)
                      have hf : f_X7_wholeOf k x1 x2 = (f_X7_wholeOf_6 k v5_1 w_4 v13_10 v15_11) := hf.trans (if_neg c_176)
                      refine lv_lload hx hb dX7_wholeOf_179 (lv_at hl 1 rfl) ?_
                      refine lv_lload hx hb dX7_wholeOf_181 (lv_at hl 0 rfl) ?_
                      refine W.lcmp hx hb dX7_wholeOf_183 ?_
                      refine W_cut (α := Unit) (pcJ := 200) (nL := 17) (fun v => f_X7_wholeOf k x1 x2 = (f_X7_wholeOf_4 k v5_1 w_4)) (fun v => []) (fun v => [(0, .ref o), (1, .int (nI k)), (5, .int v5_1), (9, .long w_4)]) (fun v ls hf hl => ?_) (fun K_200 => ?_)
                      · have hf : f_X7_wholeOf k x1 x2 = (f_X7_wholeOf_2 k v5_1 w_4 (0 : Int32)) := hf
                        have hl : lv_has ls 17 [(0, .ref o), (1, .int (nI k)), (5, .int v5_1), (9, .long w_4)] := hl
                        refine lv_iconst (v := 0) hx hb dX7_wholeOf_200 (by decide) ?_
                        exact K_201 (0 : Int32) ls hf (lv_sub hl [0, 1, 2, 3] rfl)
                      refine lv_if_ne (tgt := 200) hx hb dX7_wholeOf_184 (by decide) (fun c_184 => ?_) (fun c_184 => ?_)
                      · have c_184 : ¬ (v13_10 = v15_11) := fun h9 => c_184 ((lg_cmp_eq v13_10 v15_11).mpr h9)
                        have hf : f_X7_wholeOf k x1 x2 = (f_X7_wholeOf_4 k v5_1 w_4) := hf.trans (if_neg c_184)
                        exact K_200 () ls hf (lv_sub hl [3, 4, 6, 9] rfl)
                      · have c_184 : v13_10 = v15_11 := (lg_cmp_eq v13_10 v15_11).mp c_184
                        have hf : f_X7_wholeOf k x1 x2 = (f_X7_wholeOf_5 k v5_1 w_4) := hf.trans (if_pos c_184)
                        refine lv_lload hx hb dX7_wholeOf_187 (lv_at hl 9 rfl) ?_
                        refine lv_lconst (v := 1) hx hb dX7_wholeOf_189 (by decide) ?_
                        refine lv_land hx hb dX7_wholeOf_190 ?_
                        refine lv_lconst (v := 1) hx hb dX7_wholeOf_191 (by decide) ?_
                        refine W.lcmp hx hb dX7_wholeOf_192 ?_
                        refine lv_if_ne (tgt := 200) hx hb dX7_wholeOf_193 (by decide) (fun c_193 => ?_) (fun c_193 => ?_)
                        · have c_193 : ¬ ((w_4 &&& (1 : Int64)) = (1 : Int64)) := fun h9 => c_193 ((lg_cmp_eq (w_4 &&& (1 : Int64)) (1 : Int64)).mpr h9)
                          have hf : f_X7_wholeOf k x1 x2 = (f_X7_wholeOf_4 k v5_1 w_4) := hf.trans (if_neg c_193)
                          exact K_200 () ls hf (lv_sub hl [3, 4, 6, 9] rfl)
                        · have c_193 : (w_4 &&& (1 : Int64)) = (1 : Int64) := (lg_cmp_eq (w_4 &&& (1 : Int64)) (1 : Int64)).mp c_193
                          have hf : f_X7_wholeOf k x1 x2 = (f_X7_wholeOf_3 k v5_1 w_4) := hf.trans (if_pos c_193)
                          exact K_196 () ls hf (lv_sub hl [3, 4, 6, 9] rfl)
              refine W_cut (α := Unit) (pcJ := 137) (nL := 17) (fun v => f_X7_wholeOf k x1 x2 = (f_X7_wholeOf_10 k x2 v5_1 v6_2 v8_3 w_4)) (fun v => []) (fun v => [(0, .ref o), (1, .int (nI k)), (4, .int x2), (5, .int v5_1), (6, .long v6_2), (8, .int v8_3), (9, .long w_4)]) (fun v ls hf hl => ?_) (fun K_137 => ?_)
              · have hf : f_X7_wholeOf k x1 x2 = (f_X7_wholeOf_9 k x2 v5_1 v6_2 v8_3 w_4 (0 : Int32)) := hf
                have hl : lv_has ls 17 [(0, .ref o), (1, .int (nI k)), (4, .int x2), (5, .int v5_1), (6, .long v6_2), (8, .int v8_3), (9, .long w_4)] := hl
                refine lv_iconst (v := 0) hx hb dX7_wholeOf_137 (by decide) ?_
                exact K_138 (0 : Int32) ls hf (lv_sub hl [0, 1, 2, 3, 4, 5, 6] rfl)
              refine lv_if_eq (tgt := 137) hx hb dX7_wholeOf_108 (by decide) (fun c_108 => ?_) (fun c_108 => ?_)
              · have hf : f_X7_wholeOf k x1 x2 = (f_X7_wholeOf_10 k x2 v5_1 v6_2 v8_3 w_4) := hf.trans (if_pos c_108)
                exact K_137 () ls hf (lv_sub hl [1, 2, 3, 4, 5, 6, 7] rfl)
              · have hf : f_X7_wholeOf k x1 x2 = (f_X7_wholeOf_15 k x2 v5_1 v6_2 v8_3 w_4) := hf.trans (if_neg c_108)
                refine lv_iload hx hb dX7_wholeOf_111 (lv_at hl 3 rfl) ?_
                refine lv_iconst (v := 3) hx hb dX7_wholeOf_113 (by decide) ?_
                refine W_cut (α := Unit) (pcJ := 133) (nL := 17) (fun v => f_X7_wholeOf k x1 x2 = (f_X7_wholeOf_11 k x2 v5_1 v6_2 v8_3 w_4)) (fun v => []) (fun v => [(0, .ref o), (1, .int (nI k)), (4, .int x2), (5, .int v5_1), (6, .long v6_2), (8, .int v8_3), (9, .long w_4)]) (fun v ls hf hl => ?_) (fun K_133 => ?_)
                · have hf : f_X7_wholeOf k x1 x2 = (f_X7_wholeOf_9 k x2 v5_1 v6_2 v8_3 w_4 (1 : Int32)) := hf
                  have hl : lv_has ls 17 [(0, .ref o), (1, .int (nI k)), (4, .int x2), (5, .int v5_1), (6, .long v6_2), (8, .int v8_3), (9, .long w_4)] := hl
                  refine lv_iconst (v := 1) hx hb dX7_wholeOf_133 (by decide) ?_
                  refine lv_goto (tgt := 138) hx hb dX7_wholeOf_134 (by decide) ?_
                  exact K_138 (1 : Int32) ls hf (lv_sub hl [0, 1, 2, 3, 4, 5, 6] rfl)
                refine W_cut (α := Unit) (pcJ := 122) (nL := 17) (fun v => f_X7_wholeOf k x1 x2 = (f_X7_wholeOf_13 k x2 v5_1 v6_2 v8_3 w_4)) (fun v => []) (fun v => [(0, .ref o), (1, .int (nI k)), (4, .int x2), (5, .int v5_1), (6, .long v6_2), (8, .int v8_3), (9, .long w_4)]) (fun v ls hf hl => ?_) (fun K_122 => ?_)
                · have hf : f_X7_wholeOf k x1 x2 = (f_X7_wholeOf_13 k x2 v5_1 v6_2 v8_3 w_4) := hf
                  have hl : lv_has ls 17 [(0, .ref o), (1, .int (nI k)), (4, .int x2), (5, .int v5_1), (6, .long v6_2), (8, .int v8_3), (9, .long w_4)] := hl
                  refine lv_iload hx hb dX7_wholeOf_122 (lv_at hl 2 rfl) ?_
                  refine lv_iconst (v := 4) hx hb dX7_wholeOf_124 (by decide) ?_
                  refine lv_icmp_ne (tgt := 137) hx hb dX7_wholeOf_125 (by decide) (fun c_125 => ?_) (fun c_125 => ?_)
                  · have hf : f_X7_wholeOf k x1 x2 = (f_X7_wholeOf_10 k x2 v5_1 v6_2 v8_3 w_4) := hf.trans (if_neg c_125)
                    exact K_137 () ls hf (lv_sub hl [0, 1, 2, 3, 4, 5, 6] rfl)
                  · have hf : f_X7_wholeOf k x1 x2 = (f_X7_wholeOf_12 k x2 v5_1 v6_2 v8_3 w_4) := hf.trans (if_pos c_125)
                    refine lv_iload hx hb dX7_wholeOf_128 (lv_at hl 3 rfl) ?_
                    refine lv_if_ne (tgt := 137) hx hb dX7_wholeOf_130 (by decide) (fun c_130 => ?_) (fun c_130 => ?_)
                    · have hf : f_X7_wholeOf k x1 x2 = (f_X7_wholeOf_10 k x2 v5_1 v6_2 v8_3 w_4) := hf.trans (if_neg c_130)
                      exact K_137 () ls hf (lv_sub hl [0, 1, 2, 3, 4, 5, 6] rfl)
                    · have hf : f_X7_wholeOf k x1 x2 = (f_X7_wholeOf_11 k x2 v5_1 v6_2 v8_3 w_4) := hf.trans (if_pos c_130)
                      exact K_133 () ls hf (lv_sub hl [0, 1, 2, 3, 4, 5, 6] rfl)
                refine lv_icmp_ne (tgt := 122) hx hb dX7_wholeOf_114 (by decide) (fun c_114 => ?_) (fun c_114 => ?_)
                · have hf : f_X7_wholeOf k x1 x2 = (f_X7_wholeOf_13 k x2 v5_1 v6_2 v8_3 w_4) := hf.trans (if_neg c_114)
                  exact K_122 () ls hf (lv_sub hl [1, 2, 3, 4, 5, 6, 7] rfl)
                · have hf : f_X7_wholeOf k x1 x2 = (f_X7_wholeOf_14 k x2 v5_1 v6_2 v8_3 w_4) := hf.trans (if_pos c_114)
                  refine lv_iload hx hb dX7_wholeOf_117 (lv_at hl 4 rfl) ?_
                  refine lv_if_ne (tgt := 133) hx hb dX7_wholeOf_119 (by decide) (fun c_119 => ?_) (fun c_119 => ?_)
                  · have hf : f_X7_wholeOf k x1 x2 = (f_X7_wholeOf_11 k x2 v5_1 v6_2 v8_3 w_4) := hf.trans (if_neg c_119)
                    exact K_133 () ls hf (lv_sub hl [1, 2, 3, 4, 5, 6, 7] rfl)
                  · have hf : f_X7_wholeOf k x1 x2 = (f_X7_wholeOf_13 k x2 v5_1 v6_2 v8_3 w_4) := hf.trans (if_pos c_119)
                    exact K_122 () ls hf (lv_sub hl [1, 2, 3, 4, 5, 6, 7] rfl)
            refine W_cut (α := Unit) (pcJ := 99) (nL := 17) (fun v => f_X7_wholeOf k x1 x2 = (f_X7_wholeOf_17 k x2 v5_1 v6_2 v8_3 w_4)) (fun v => []) (fun v => [(0, .ref o), (1, .int (nI k)), (4, .int x2), (5, .int v5_1), (6, .long v6_2), (8, .int v8_3), (9, .long w_4)]) (fun v ls hf hl => ?_) (fun K_99 => ?_)
            · have hf : f_X7_wholeOf k x1 x2 = (f_X7_wholeOf_16 k x2 v5_1 v6_2 v8_3 w_4 (1 : Int32)) := hf
              have hl : lv_has ls 17 [(0, .ref o), (1, .int (nI k)), (4, .int x2), (5, .int v5_1), (6, .long v6_2), (8, .int v8_3), (9, .long w_4)] := hl
              refine lv_iconst (v := 1) hx hb dX7_wholeOf_99 (by decide) ?_
              refine lv_goto (tgt := 104) hx hb dX7_wholeOf_100 (by decide) ?_
              exact K_104 (1 : Int32) ls hf (lv_sub hl [0, 1, 2, 3, 4, 5, 6] rfl)
            refine lv_icmp_gt (tgt := 99) hx hb dX7_wholeOf_85 (by decide) (fun c_85 => ?_) (fun c_85 => ?_)
            · have hf : f_X7_wholeOf k x1 x2 = (f_X7_wholeOf_17 k x2 v5_1 v6_2 v8_3 w_4) := hf.trans (if_pos c_85)
              exact K_99 () ls hf (lv_sub hl [1, 2, 3, 4, 5, 6, 0] rfl)
            · have hf : f_X7_wholeOf k x1 x2 = (f_X7_wholeOf_18 k x2 v5_1 v6_2 v8_3 w_4) := hf.trans (if_neg c_85)
              refine lv_lload hx hb dX7_wholeOf_88 (lv_at hl 0 rfl) ?_
              refine lv_iload hx hb dX7_wholeOf_90 (lv_at hl 6 rfl) ?_
              refine lv_lshl (v := (jlshl w_4 v8_3)) hx hb dX7_wholeOf_92 rfl ?_
              refine lv_lload hx hb dX7_wholeOf_93 (lv_at hl 5 rfl) ?_
              refine W.lcmp hx hb dX7_wholeOf_95 ?_
              refine lv_if_eq (tgt := 103) hx hb dX7_wholeOf_96 (by decide) (fun c_96 => ?_) (fun c_96 => ?_)
              · have c_96 : (jlshl w_4 v8_3) = v6_2 := (lg_cmp_eq (jlshl w_4 v8_3) v6_2).mp c_96
                have hf : f_X7_wholeOf k x1 x2 = (f_X7_wholeOf_16 k x2 v5_1 v6_2 v8_3 w_4 (0 : Int32)) := hf.trans (if_pos c_96)
                refine lv_iconst (v := 0) hx hb dX7_wholeOf_103 (by decide) ?_
                exact K_104 (0 : Int32) ls hf (lv_sub hl [1, 2, 3, 4, 5, 6, 0] rfl)
              · have c_96 : ¬ ((jlshl w_4 v8_3) = v6_2) := fun h9 => c_96 ((lg_cmp_eq (jlshl w_4 v8_3) v6_2).mpr h9)
                have hf : f_X7_wholeOf k x1 x2 = (f_X7_wholeOf_17 k x2 v5_1 v6_2 v8_3 w_4) := hf.trans (if_neg c_96)
                exact K_99 () ls hf (lv_sub hl [1, 2, 3, 4, 5, 6, 0] rfl)
          refine lv_icmp_le (tgt := 74) hx hb dX7_wholeOf_67 (by decide) (fun c_67 => ?_) (fun c_67 => ?_)
          · have hf : f_X7_wholeOf k x1 x2 = (f_X7_wholeOf_19 k x2 v5_1 v6_2 v8_3 (jlshr v6_2 v8_3)) := hf.trans (if_pos c_67)
            refine lv_lload hx hb dX7_wholeOf_74 (lv_at hl 1 rfl) ?_
            refine lv_iload hx hb dX7_wholeOf_76 (lv_at hl 0 rfl) ?_
            refine lv_lshr (v := (jlshr v6_2 v8_3)) hx hb dX7_wholeOf_78 rfl ?_
            exact K_79 (jlshr v6_2 v8_3) ls hf (lv_sub hl [3, 4, 6, 2, 1, 0] rfl)
          · have hf : f_X7_wholeOf k x1 x2 = (f_X7_wholeOf_19 k x2 v5_1 v6_2 v8_3 (0 : Int64)) := hf.trans (if_neg c_67)
            refine lv_lconst (v := 0) hx hb dX7_wholeOf_70 (by decide) ?_
            refine lv_goto (tgt := 79) hx hb dX7_wholeOf_71 (by decide) ?_
            exact K_79 (0 : Int64) ls hf (lv_sub hl [3, 4, 6, 2, 1, 0] rfl)
        · have hf : f_X7_wholeOf k x1 x2 = x1 := hf.trans (if_neg c_33)
          refine lv_lload_n hx hb dX7_wholeOf_36 rfl (lv_at hl 2 rfl) ?_
          exact W.lret hx hb hr (fun t ht hW => ⟨_, rfl, hf.symm, ht⟩) (fun q hq => absurd hq List.not_mem_nil) dX7_wholeOf_37
def f_X7_turnedTo_1 (k : Nat) (k2 : Nat) (x1 : Int64) : Int64 := if (f_X7_infinite k x1) = 0 then (f_X7_round k2 (f_X7_minus k x1) (f_X7_mantissa k x1) (f_X7_power k x1) (0 : Int32)) else (f_X7_signed k2 (kinf k2) (f_X7_minus k x1))
def f_X7_turnedTo_2 (k : Nat) (k2 : Nat) (x1 : Int64) : Int64 := if (f_X7_zero k x1) = 0 then (f_X7_turnedTo_1 k k2 x1) else (f_X7_signed k2 (0 : Int64) (f_X7_minus k x1))
def f_X7_turnedTo_3 (k : Nat) (k2 : Nat) (x1 : Int64) : Int64 := if (f_X7_none k x1) = 0 then (f_X7_turnedTo_2 k k2 x1) else (knan k2)
def f_X7_turnedTo_4 (k : Nat) (k2 : Nat) (x1 : Int64) : Int64 := if (nI k) = (nI k2) then x1 else (f_X7_turnedTo_3 k k2 x1)
def f_X7_turnedTo (k : Nat) (k2 : Nat) (x1 : Int64) : Int64 := (f_X7_turnedTo_4 k k2 x1)
def zX7_turnedTo : List Cond := .code yX7_turnedTo cX7_turnedTo 5 (some .long) :: zall
theorem iX7_turnedTo : MWv RX7 yX7_turnedTo (.code yX7_turnedTo cX7_turnedTo 5 (some .long)) := ⟨(zin__r31 (.instanceMethod yX7_turnedTo) (List.mem_of_getElem? (i := 15) rfl)), (zin__r31 (.selects RX7 yX7_turnedTo yX7_turnedTo) (List.mem_of_getElem? (i := 16) rfl)), (zin__r1 (.initialized RX7) (List.mem_of_getElem? (i := 5) rfl)), (zin__r31 (.code yX7_turnedTo cX7_turnedTo 5 (some .long)) (List.mem_of_getElem? (i := 17) rfl))⟩
set_option maxHeartbeats 4000000 in
set_option maxRecDepth 100000 in
theorem c_X7_turnedTo (l : Launch) (o : Nat) (r : Nat → Nat) (k : Nat) (h_k : k < 2) (k2 : Nat) (h_k2 : k2 < 2) (x1 : Int64) (hc1 : kcn k x1) : Met l yX7_turnedTo zX7_turnedTo ({ frames := 2, cells := 0, slots := 0, locals := 59 }) (va_Pc [.ref o, .int (nI k), .int (nI k2), .long x1] (fun U => mU o r U)) (vp_Sl (fun r => r = f_X7_turnedTo k k2 x1)) 0 0 (fun _ => False) := by
  refine Met.ofW (cc := cX7_turnedTo) (maxL := 5) (ret := (some .long)) (by decide) rfl ?_
  intro p e s m args below meth c s₁ B hml hv
  obtain ⟨rfl, hm⟩ := hv
  have hx := B.exec
  have hb := B.bytes
  have hr := B.returns
  have hts : ∀ w ∈ zall, w.before _ s = true := fun w h => atoms_spec (ws := zX7_turnedTo) B.pre w (List.mem_cons_of_mem _ h)
  have hown : s.vm.findClass RX7 = some m.cls := findClass_of_methodNamed B.named
  have hlocks := B.notSynchronized
  have hl := lv_entry ([.ref o, .int (nI k), .int (nI k2), .long x1]) (n := 5) (Nat.le_of_ble_eq_true rfl)
  rw [lg_entry_eq]
  generalize (lg_sl ([.ref o, .int (nI k), .int (nI k2), .long x1]) ++ List.replicate (5 - (lg_sl ([.ref o, .int (nI k), .int (nI k2), .long x1])).length) Slot.unset).toArray = ls at hl ⊢
  have hl : lv_has ls 5 [(0, .ref o), (1, .int (nI k)), (2, .int (nI k2)), (3, .long x1)] := hl
  have hf : f_X7_turnedTo k k2 x1 = (f_X7_turnedTo_4 k k2 x1) := rfl
  refine lv_iload_n hx hb dX7_turnedTo_0 rfl (lv_at hl 1 rfl) ?_
  refine lv_iload_n hx hb dX7_turnedTo_1 rfl (lv_at hl 2 rfl) ?_
  refine lv_icmp_ne (tgt := 7) hx hb dX7_turnedTo_2 (by decide) (fun c_2 => ?_) (fun c_2 => ?_)
  · have hf : f_X7_turnedTo k k2 x1 = (f_X7_turnedTo_3 k k2 x1) := hf.trans (if_neg c_2)
    refine lv_aload_n hx hb dX7_turnedTo_7 rfl (lv_at hl 0 rfl) ?_
    refine lv_iload_n hx hb dX7_turnedTo_8 rfl (lv_at hl 1 rfl) ?_
    refine lv_lload_n hx hb dX7_turnedTo_9 rfl (lv_at hl 3 rfl) ?_
    refine vp_callSi (va_Run.run (va_runV (As := [.int (nI k), .long x1]) (rest := []) ⟨hx, hb, hml, hown, hts⟩ (c_X7_none l o r k h_k x1) (cwV 2 hts (gV iX7_none (zin__r7 (.methodLink RX7 98 yX7_none) (List.mem_of_getElem? (i := 17) rfl))) rfl rfl rfl (by decide +kernel) ⟨Nat.le_of_ble_eq_true rfl, Nat.le_of_ble_eq_true rfl⟩) ⟨fun a U g mk q => ⟨q.1, mU_bl q.2⟩, (mU_rv hm), fun U hU hW => ⟨rfl, mU_mv hm hU hW⟩⟩ rfl rfl hl.1 rfl (lv_room (Nat.le_of_ble_eq_true rfl)) dX7_turnedTo_10 ⟨Nat.zero_le _, Nat.zero_le _⟩)) (fun r_10 hr_10 => ?_)
    subst hr_10
    refine lv_if_eq (tgt := 23) hx hb dX7_turnedTo_13 (by decide) (fun c_13 => ?_) (fun c_13 => ?_)
    · have hf : f_X7_turnedTo k k2 x1 = (f_X7_turnedTo_2 k k2 x1) := hf.trans (if_pos c_13)
      refine lv_aload_n hx hb dX7_turnedTo_23 rfl (lv_at hl 0 rfl) ?_
      refine lv_iload_n hx hb dX7_turnedTo_24 rfl (lv_at hl 1 rfl) ?_
      refine lv_lload_n hx hb dX7_turnedTo_25 rfl (lv_at hl 3 rfl) ?_
      refine vp_callSi (va_Run.run (va_runV (As := [.int (nI k), .long x1]) (rest := []) ⟨hx, hb, hml, hown, hts⟩ (c_X7_zero l o r k h_k x1) (cwV 2 hts (gV iX7_zero (zin__r7 (.methodLink RX7 102 yX7_zero) (List.mem_of_getElem? (i := 21) rfl))) rfl rfl rfl (by decide +kernel) ⟨Nat.le_of_ble_eq_true rfl, Nat.le_of_ble_eq_true rfl⟩) ⟨fun a U g mk q => ⟨q.1, mU_bl q.2⟩, (mU_rv hm), fun U hU hW => ⟨rfl, mU_mv hm hU hW⟩⟩ rfl rfl hl.1 rfl (lv_room (Nat.le_of_ble_eq_true rfl)) dX7_turnedTo_26 ⟨Nat.zero_le _, Nat.zero_le _⟩)) (fun r_26 hr_26 => ?_)
      subst hr_26
      refine lv_if_eq (tgt := 45) hx hb dX7_turnedTo_29 (by decide) (fun c_29 => ?_) (fun c_29 => ?_)
      · have hf : f_X7_turnedTo k k2 x1 = (f_X7_turnedTo_1 k k2 x1) := hf.trans (if_pos c_29)
        refine lv_aload_n hx hb dX7_turnedTo_45 rfl (lv_at hl 0 rfl) ?_
        refine lv_iload_n hx hb dX7_turnedTo_46 rfl (lv_at hl 1 rfl) ?_
        refine lv_lload_n hx hb dX7_turnedTo_47 rfl (lv_at hl 3 rfl) ?_
        refine vp_callSi (va_Run.run (va_runV (As := [.int (nI k), .long x1]) (rest := []) ⟨hx, hb, hml, hown, hts⟩ (c_X7_infinite l o r k h_k x1) (cwV 2 hts (gV iX7_infinite (zin__r8 (.methodLink RX7 105 yX7_infinite) (List.mem_of_getElem? (i := 1) rfl))) rfl rfl rfl (by decide +kernel) ⟨Nat.le_of_ble_eq_true rfl, Nat.le_of_ble_eq_true rfl⟩) ⟨fun a U g mk q => ⟨q.1, mU_bl q.2⟩, (mU_rv hm), fun U hU hW => ⟨rfl, mU_mv hm hU hW⟩⟩ rfl rfl hl.1 rfl (lv_room (Nat.le_of_ble_eq_true rfl)) dX7_turnedTo_48 ⟨Nat.zero_le _, Nat.zero_le _⟩)) (fun r_48 hr_48 => ?_)
        subst hr_48
        refine lv_if_eq (tgt := 72) hx hb dX7_turnedTo_51 (by decide) (fun c_51 => ?_) (fun c_51 => ?_)
        · have hf : f_X7_turnedTo k k2 x1 = (f_X7_round k2 (f_X7_minus k x1) (f_X7_mantissa k x1) (f_X7_power k x1) (0 : Int32)) := hf.trans (if_pos c_51)
          refine lv_aload_n hx hb dX7_turnedTo_72 rfl (lv_at hl 0 rfl) ?_
          refine lv_iload_n hx hb dX7_turnedTo_73 rfl (lv_at hl 2 rfl) ?_
          refine lv_aload_n hx hb dX7_turnedTo_74 rfl (lv_at hl 0 rfl) ?_
          refine lv_iload_n hx hb dX7_turnedTo_75 rfl (lv_at hl 1 rfl) ?_
          refine lv_lload_n hx hb dX7_turnedTo_76 rfl (lv_at hl 3 rfl) ?_
          refine vp_callSi (va_Run.run (va_runV (As := [.int (nI k), .long x1]) (rest := [.int (nI k2), .ref o]) ⟨hx, hb, hml, hown, hts⟩ (c_X7_minus l o r k h_k x1) (cwV 2 hts (gV iX7_minus (zin__r8 (.methodLink RX7 108 yX7_minus) (List.mem_of_getElem? (i := 5) rfl))) rfl rfl rfl (by decide +kernel) ⟨Nat.le_of_ble_eq_true rfl, Nat.le_of_ble_eq_true rfl⟩) ⟨fun a U g mk q => ⟨q.1, mU_bl q.2⟩, (mU_rv hm), fun U hU hW => ⟨rfl, mU_mv hm hU hW⟩⟩ rfl rfl hl.1 rfl (lv_room (Nat.le_of_ble_eq_true rfl)) dX7_turnedTo_77 ⟨Nat.zero_le _, Nat.zero_le _⟩)) (fun r_77 hr_77 => ?_)
          subst hr_77
          refine lv_aload_n hx hb dX7_turnedTo_80 rfl (lv_at hl 0 rfl) ?_
          refine lv_iload_n hx hb dX7_turnedTo_81 rfl (lv_at hl 1 rfl) ?_
          refine lv_lload_n hx hb dX7_turnedTo_82 rfl (lv_at hl 3 rfl) ?_
          refine vp_callSl (va_Run.run (va_runV (As := [.int (nI k), .long x1]) (rest := [.int (f_X7_minus k x1), .int (nI k2), .ref o]) ⟨hx, hb, hml, hown, hts⟩ (c_X7_mantissa l o r k h_k x1 (kpos h_k hc1 c_13 c_29)) (cwV 2 hts (gV iX7_mantissa (zin__r13 (.methodLink RX7 119 yX7_mantissa) (List.mem_of_getElem? (i := 3) rfl))) rfl rfl rfl (by decide +kernel) ⟨Nat.le_of_ble_eq_true rfl, Nat.le_of_ble_eq_true rfl⟩) ⟨fun a U g mk q => ⟨q.1, mU_bl q.2⟩, (mU_rv hm), fun U hU hW => ⟨rfl, mU_mv hm hU hW⟩⟩ rfl rfl hl.1 rfl (lv_room (Nat.le_of_ble_eq_true rfl)) dX7_turnedTo_83 ⟨Nat.zero_le _, Nat.zero_le _⟩)) (fun r_83 hr_83 => ?_)
          subst hr_83
          refine lv_aload_n hx hb dX7_turnedTo_86 rfl (lv_at hl 0 rfl) ?_
          refine lv_iload_n hx hb dX7_turnedTo_87 rfl (lv_at hl 1 rfl) ?_
          refine lv_lload_n hx hb dX7_turnedTo_88 rfl (lv_at hl 3 rfl) ?_
          refine vp_callSi (va_Run.run (va_runV (As := [.int (nI k), .long x1]) (rest := [.long (f_X7_mantissa k x1), .int (f_X7_minus k x1), .int (nI k2), .ref o]) ⟨hx, hb, hml, hown, hts⟩ (c_X7_power l o r k h_k x1 (kpos h_k hc1 c_13 c_29)) (cwV 2 hts (gV iX7_power (zin__r12 (.methodLink RX7 122 yX7_power) (List.mem_of_getElem? (i := 23) rfl))) rfl rfl rfl (by decide +kernel) ⟨Nat.le_of_ble_eq_true rfl, Nat.le_of_ble_eq_true rfl⟩) ⟨fun a U g mk q => ⟨q.1, mU_bl q.2⟩, (mU_rv hm), fun U hU hW => ⟨rfl, mU_mv hm hU hW⟩⟩ rfl rfl hl.1 rfl (lv_room (Nat.le_of_ble_eq_true rfl)) dX7_turnedTo_89 ⟨Nat.zero_le _, Nat.zero_le _⟩)) (fun r_89 hr_89 => ?_)
          subst hr_89
          refine lv_iconst (v := 0) hx hb dX7_turnedTo_92 (by decide) ?_
          refine vp_callSl (va_Run.run (va_runV (As := [.int (nI k2), .int (f_X7_minus k x1), .long (f_X7_mantissa k x1), .int (f_X7_power k x1), .int (0 : Int32)]) (rest := []) ⟨hx, hb, hml, hown, hts⟩ (c_X7_round l o r k2 h_k2 (f_X7_minus k x1) (f_X7_mantissa k x1) (f_X7_power k x1) (0 : Int32)) (cwV 5 hts (gV iX7_round (zin__r10 (.methodLink RX7 125 yX7_round) (List.mem_of_getElem? (i := 1) rfl))) rfl rfl rfl (by decide +kernel) ⟨Nat.le_of_ble_eq_true rfl, Nat.le_of_ble_eq_true rfl⟩) ⟨fun a U g mk q => ⟨q.1, mU_bl q.2⟩, (mU_rv hm), fun U hU hW => ⟨rfl, mU_mv hm hU hW⟩⟩ rfl rfl hl.1 rfl (lv_room (Nat.le_of_ble_eq_true rfl)) dX7_turnedTo_93 ⟨Nat.zero_le _, Nat.zero_le _⟩)) (fun r_93 hr_93 => ?_)
          subst hr_93
          exact W.lret hx hb hr (fun t ht hW => ⟨_, rfl, hf.symm, ht⟩) (fun q hq => absurd hq List.not_mem_nil) dX7_turnedTo_96
        · have hf : f_X7_turnedTo k k2 x1 = (f_X7_signed k2 (kinf k2) (f_X7_minus k x1)) := hf.trans (if_neg c_51)
          refine lv_aload_n hx hb dX7_turnedTo_54 rfl (lv_at hl 0 rfl) ?_
          refine lv_iload_n hx hb dX7_turnedTo_55 rfl (lv_at hl 2 rfl) ?_
          refine lv_aload_n hx hb dX7_turnedTo_56 rfl (lv_at hl 0 rfl) ?_
          refine vk_getf hx hb (mE_INFINITE hm) va_S.rf hown (hts _ (zin__r2 (.fieldLink RX7 31 "ReckonBenchModel" "INFINITE" "[J") (List.mem_of_getElem? (i := 18) rfl))) (fun _ h9 => h9) dX7_turnedTo_57 ?_
          refine lv_iload_n hx hb dX7_turnedTo_60 rfl (lv_at hl 2 rfl) ?_
          refine va_tl hx hb (mT_INFINITE hm) va_S.rf (kin h_k2) (v := .long (kinf k2)) (kev (fun j => Value.long (kinf j)) h_k2) dX7_turnedTo_61 ?_
          refine lv_aload_n hx hb dX7_turnedTo_62 rfl (lv_at hl 0 rfl) ?_
          refine lv_iload_n hx hb dX7_turnedTo_63 rfl (lv_at hl 1 rfl) ?_
          refine lv_lload_n hx hb dX7_turnedTo_64 rfl (lv_at hl 3 rfl) ?_
          refine vp_callSi (va_Run.run (va_runV (As := [.int (nI k), .long x1]) (rest := [.long (kinf k2), .int (nI k2), .ref o]) ⟨hx, hb, hml, hown, hts⟩ (c_X7_minus l o r k h_k x1) (cwV 2 hts (gV iX7_minus (zin__r8 (.methodLink RX7 108 yX7_minus) (List.mem_of_getElem? (i := 5) rfl))) rfl rfl rfl (by decide +kernel) ⟨Nat.le_of_ble_eq_true rfl, Nat.le_of_ble_eq_true rfl⟩) ⟨fun a U g mk q => ⟨q.1, mU_bl q.2⟩, (mU_rv hm), fun U hU hW => ⟨rfl, mU_mv hm hU hW⟩⟩ rfl rfl hl.1 rfl (lv_room (Nat.le_of_ble_eq_true rfl)) dX7_turnedTo_65 ⟨Nat.zero_le _, Nat.zero_le _⟩)) (fun r_65 hr_65 => ?_)
          subst hr_65
          refine vp_callSl (va_Run.run (va_runV (As := [.int (nI k2), .long (kinf k2), .int (f_X7_minus k x1)]) (rest := []) ⟨hx, hb, hml, hown, hts⟩ (c_X7_signed l o r k2 h_k2 (kinf k2) (f_X7_minus k x1)) (cwV 3 hts (gV iX7_signed (zin__r10 (.methodLink RX7 111 yX7_signed) (List.mem_of_getElem? (i := 5) rfl))) rfl rfl rfl (by decide +kernel) ⟨Nat.le_of_ble_eq_true rfl, Nat.le_of_ble_eq_true rfl⟩) ⟨fun a U g mk q => ⟨q.1, mU_bl q.2⟩, (mU_rv hm), fun U hU hW => ⟨rfl, mU_mv hm hU hW⟩⟩ rfl rfl hl.1 rfl (lv_room (Nat.le_of_ble_eq_true rfl)) dX7_turnedTo_68 ⟨Nat.zero_le _, Nat.zero_le _⟩)) (fun r_68 hr_68 => ?_)
          subst hr_68
          exact W.lret hx hb hr (fun t ht hW => ⟨_, rfl, hf.symm, ht⟩) (fun q hq => absurd hq List.not_mem_nil) dX7_turnedTo_71
      · have hf : f_X7_turnedTo k k2 x1 = (f_X7_signed k2 (0 : Int64) (f_X7_minus k x1)) := hf.trans (if_neg c_29)
        refine lv_aload_n hx hb dX7_turnedTo_32 rfl (lv_at hl 0 rfl) ?_
        refine lv_iload_n hx hb dX7_turnedTo_33 rfl (lv_at hl 2 rfl) ?_
        refine lv_lconst (v := 0) hx hb dX7_turnedTo_34 (by decide) ?_
        refine lv_aload_n hx hb dX7_turnedTo_35 rfl (lv_at hl 0 rfl) ?_
        refine lv_iload_n hx hb dX7_turnedTo_36 rfl (lv_at hl 1 rfl) ?_
        refine lv_lload_n hx hb dX7_turnedTo_37 rfl (lv_at hl 3 rfl) ?_
        refine vp_callSi (va_Run.run (va_runV (As := [.int (nI k), .long x1]) (rest := [.long (0 : Int64), .int (nI k2), .ref o]) ⟨hx, hb, hml, hown, hts⟩ (c_X7_minus l o r k h_k x1) (cwV 2 hts (gV iX7_minus (zin__r8 (.methodLink RX7 108 yX7_minus) (List.mem_of_getElem? (i := 5) rfl))) rfl rfl rfl (by decide +kernel) ⟨Nat.le_of_ble_eq_true rfl, Nat.le_of_ble_eq_true rfl⟩) ⟨fun a U g mk q => ⟨q.1, mU_bl q.2⟩, (mU_rv hm), fun U hU hW => ⟨rfl, mU_mv hm hU hW⟩⟩ rfl rfl hl.1 rfl (lv_room (Nat.le_of_ble_eq_true rfl)) dX7_turnedTo_38 ⟨Nat.zero_le _, Nat.zero_le _⟩)) (fun r_38 hr_38 => ?_)
        subst hr_38
        refine vp_callSl (va_Run.run (va_runV (As := [.int (nI k2), .long (0 : Int64), .int (f_X7_minus k x1)]) (rest := []) ⟨hx, hb, hml, hown, hts⟩ (c_X7_signed l o r k2 h_k2 (0 : Int64) (f_X7_minus k x1)) (cwV 3 hts (gV iX7_signed (zin__r10 (.methodLink RX7 111 yX7_signed) (List.mem_of_getElem? (i := 5) rfl))) rfl rfl rfl (by decide +kernel) ⟨Nat.le_of_ble_eq_true rfl, Nat.le_of_ble_eq_true rfl⟩) ⟨fun a U g mk q => ⟨q.1, mU_bl q.2⟩, (mU_rv hm), fun U hU hW => ⟨rfl, mU_mv hm hU hW⟩⟩ rfl rfl hl.1 rfl (lv_room (Nat.le_of_ble_eq_true rfl)) dX7_turnedTo_41 ⟨Nat.zero_le _, Nat.zero_le _⟩)) (fun r_41 hr_41 => ?_)
        subst hr_41
        exact W.lret hx hb hr (fun t ht hW => ⟨_, rfl, hf.symm, ht⟩) (fun q hq => absurd hq List.not_mem_nil) dX7_turnedTo_44
    · have hf : f_X7_turnedTo k k2 x1 = (knan k2) := hf.trans (if_neg c_13)
      refine lv_aload_n hx hb dX7_turnedTo_16 rfl (lv_at hl 0 rfl) ?_
      refine vk_getf hx hb (mE_NONE hm) va_S.rf hown (hts _ (zin__r2 (.fieldLink RX7 38 "ReckonBenchModel" "NONE" "[J") (List.mem_of_getElem? (i := 21) rfl))) (fun _ h9 => h9) dX7_turnedTo_17 ?_
      refine lv_iload_n hx hb dX7_turnedTo_20 rfl (lv_at hl 2 rfl) ?_
      refine va_tl hx hb (mT_NONE hm) va_S.rf (kin h_k2) (v := .long (knan k2)) (kev (fun j => Value.long (knan j)) h_k2) dX7_turnedTo_21 ?_
      exact W.lret hx hb hr (fun t ht hW => ⟨_, rfl, hf.symm, ht⟩) (fun q hq => absurd hq List.not_mem_nil) dX7_turnedTo_22
  · have hf : f_X7_turnedTo k k2 x1 = x1 := hf.trans (if_pos c_2)
    refine lv_lload_n hx hb dX7_turnedTo_5 rfl (lv_at hl 3 rfl) ?_
    exact W.lret hx hb hr (fun t ht hW => ⟨_, rfl, hf.symm, ht⟩) (fun q hq => absurd hq List.not_mem_nil) dX7_turnedTo_6
def f_X7_result_1 (k : Nat) (x2 : Int64) : Int64 := if (f_X7_none k x2) = 0 then (f_X7_unsigned k x2) else x2
def f_X7_result_2 (k : Nat) (x2 : Int64) : Int64 := if (f_X7_zero k x2) = 0 then (f_X7_signed k (kone k) (f_X7_minus k x2)) else x2
def f_X7_result_3 (k : Nat) (x2 : Int64) : Int64 := if (f_X7_none k x2) = 0 then (f_X7_result_2 k x2) else x2
def f_X7_result_4 (k : Nat) : Int64 := (knan k)
def f_X7_result_5 (k : Nat) (x2 : Int64) (x3 : Int64) : Int64 := if (f_X7_none k x3) = 0 then (f_X7_signed k x2 (f_X7_minus k x3)) else (f_X7_result_4 k)
def f_X7_result_6 (k : Nat) (x2 : Int64) (x3 : Int64) : Int64 := if (f_X7_none k x2) = 0 then (f_X7_result_5 k x2 x3) else (f_X7_result_4 k)
def f_X7_result_7 (k : Nat) (x1 : Int32) (x2 : Int64) (x3 : Int64) : Int64 := if x1 = (12 : Int32) then (f_X7_left k x2 x3) else (f_X7_turned k x2)
def f_X7_result_8 (k : Nat) (x1 : Int32) (x2 : Int64) (x3 : Int64) : Int64 := if x1 = (11 : Int32) then (f_X7_over k x2 x3) else (f_X7_result_7 k x1 x2 x3)
def f_X7_result_9 (k : Nat) (x1 : Int32) (x2 : Int64) (x3 : Int64) : Int64 := if x1 = (10 : Int32) then (f_X7_times k x2 x3) else (f_X7_result_8 k x1 x2 x3)
def f_X7_result_10 (k : Nat) (x1 : Int32) (x2 : Int64) (x3 : Int64) : Int64 := if x1 = (9 : Int32) then (f_X7_plus k x2 (f_X7_turned k x3)) else (f_X7_result_9 k x1 x2 x3)
def f_X7_result_11 (k : Nat) (x1 : Int32) (x2 : Int64) (x3 : Int64) : Int64 := if x1 = (8 : Int32) then (f_X7_plus k x2 x3) else (f_X7_result_10 k x1 x2 x3)
def f_X7_result_12 (k : Nat) (x1 : Int32) (x2 : Int64) (x3 : Int64) : Int64 := if x1 = (7 : Int32) then (f_X7_result_6 k x2 x3) else (f_X7_result_11 k x1 x2 x3)
def f_X7_result_13 (k : Nat) (x1 : Int32) (x2 : Int64) (x3 : Int64) : Int64 := if x1 = (6 : Int32) then (f_X7_result_3 k x2) else (f_X7_result_12 k x1 x2 x3)
def f_X7_result_14 (k : Nat) (x1 : Int32) (x2 : Int64) (x3 : Int64) : Int64 := if x1 = (5 : Int32) then (f_X7_wholeOf k x2 x1) else (f_X7_result_13 k x1 x2 x3)
def f_X7_result_15 (k : Nat) (x1 : Int32) (x2 : Int64) (x3 : Int64) : Int64 := if x1 = (4 : Int32) then (f_X7_wholeOf k x2 x1) else (f_X7_result_14 k x1 x2 x3)
def f_X7_result_16 (k : Nat) (x1 : Int32) (x2 : Int64) (x3 : Int64) : Int64 := if x1 = (3 : Int32) then (f_X7_wholeOf k x2 x1) else (f_X7_result_15 k x1 x2 x3)
def f_X7_result_17 (k : Nat) (x1 : Int32) (x2 : Int64) (x3 : Int64) : Int64 := if x1 = (2 : Int32) then (f_X7_lesser k x2 x3) else (f_X7_result_16 k x1 x2 x3)
def f_X7_result_18 (k : Nat) (x1 : Int32) (x2 : Int64) (x3 : Int64) : Int64 := if x1 = (1 : Int32) then (f_X7_greater k x2 x3) else (f_X7_result_17 k x1 x2 x3)
def f_X7_result_19 (k : Nat) (x1 : Int32) (x2 : Int64) (x3 : Int64) : Int64 := if x1 = (0 : Int32) then (f_X7_result_1 k x2) else (f_X7_result_18 k x1 x2 x3)
def f_X7_result (k : Nat) (x1 : Int32) (x2 : Int64) (x3 : Int64) : Int64 := (f_X7_result_19 k x1 x2 x3)
def zX7_result : List Cond := .code yX7_result cX7_result 7 (some .long) :: zall
theorem iX7_result : MWv RX7 yX7_result (.code yX7_result cX7_result 7 (some .long)) := ⟨(zin__r20 (.instanceMethod yX7_result) (List.mem_of_getElem? (i := 11) rfl)), (zin__r20 (.selects RX7 yX7_result yX7_result) (List.mem_of_getElem? (i := 12) rfl)), (zin__r1 (.initialized RX7) (List.mem_of_getElem? (i := 5) rfl)), (zin__r20 (.code yX7_result cX7_result 7 (some .long)) (List.mem_of_getElem? (i := 13) rfl))⟩
set_option maxHeartbeats 4000000 in
set_option maxRecDepth 100000 in
theorem c_X7_result (l : Launch) (o : Nat) (r : Nat → Nat) (k : Nat) (h_k : k < 2) (x1 : Int32) (x2 : Int64) (x3 : Int64) (hc1 : kcn k x2) (hc2 : kcn k x3) : Met l yX7_result zX7_result ({ frames := 4, cells := 0, slots := 0, locals := 119 }) (va_Pc [.ref o, .int (nI k), .int x1, .long x2, .long x3] (fun U => mU o r U)) (vp_Sl (fun r => r = f_X7_result k x1 x2 x3)) 0 0 (fun _ => False) := by
  refine Met.ofW (cc := cX7_result) (maxL := 7) (ret := (some .long)) (by decide) rfl ?_
  intro p e s m args below meth c s₁ B hml hv
  obtain ⟨rfl, hm⟩ := hv
  have hx := B.exec
  have hb := B.bytes
  have hr := B.returns
  have hts : ∀ w ∈ zall, w.before _ s = true := fun w h => atoms_spec (ws := zX7_result) B.pre w (List.mem_cons_of_mem _ h)
  have hown : s.vm.findClass RX7 = some m.cls := findClass_of_methodNamed B.named
  have hlocks := B.notSynchronized
  have hl := lv_entry ([.ref o, .int (nI k), .int x1, .long x2, .long x3]) (n := 7) (Nat.le_of_ble_eq_true rfl)
  rw [lg_entry_eq]
  generalize (lg_sl ([.ref o, .int (nI k), .int x1, .long x2, .long x3]) ++ List.replicate (7 - (lg_sl ([.ref o, .int (nI k), .int x1, .long x2, .long x3])).length) Slot.unset).toArray = ls at hl ⊢
  have hl : lv_has ls 7 [(0, .ref o), (1, .int (nI k)), (2, .int x1), (3, .long x2), (5, .long x3)] := hl
  have hf : f_X7_result k x1 x2 x3 = (f_X7_result_19 k x1 x2 x3) := rfl
  refine lv_iload_n hx hb dX7_result_0 rfl (lv_at hl 2 rfl) ?_
  refine W_cut (α := Unit) (pcJ := 106) (nL := 7) (fun v => f_X7_result k x1 x2 x3 = (f_X7_wholeOf k x2 x1)) (fun v => []) (fun v => [(0, .ref o), (1, .int (nI k)), (2, .int x1), (3, .long x2)]) (fun v ls hf hl => ?_) (fun K_106 => ?_)
  · have hf : f_X7_result k x1 x2 x3 = (f_X7_wholeOf k x2 x1) := hf
    have hl : lv_has ls 7 [(0, .ref o), (1, .int (nI k)), (2, .int x1), (3, .long x2)] := hl
    refine lv_aload_n hx hb dX7_result_106 rfl (lv_at hl 0 rfl) ?_
    refine lv_iload_n hx hb dX7_result_107 rfl (lv_at hl 1 rfl) ?_
    refine lv_lload_n hx hb dX7_result_108 rfl (lv_at hl 3 rfl) ?_
    refine lv_iload_n hx hb dX7_result_109 rfl (lv_at hl 2 rfl) ?_
    refine vp_callSl (va_Run.run (va_runV (As := [.int (nI k), .long x2, .int x1]) (rest := []) ⟨hx, hb, hml, hown, hts⟩ (c_X7_wholeOf l o r k h_k x2 x1 hc1) (cwV 3 hts (gV iX7_wholeOf (zin__r20 (.methodLink RX7 193 yX7_wholeOf) (List.mem_of_getElem? (i := 22) rfl))) rfl rfl rfl (by decide +kernel) ⟨Nat.le_of_ble_eq_true rfl, Nat.le_of_ble_eq_true rfl⟩) ⟨fun a U g mk q => ⟨q.1, mU_bl q.2⟩, (mU_rv hm), fun U hU hW => ⟨rfl, mU_mv hm hU hW⟩⟩ rfl rfl hl.1 rfl (lv_room (Nat.le_of_ble_eq_true rfl)) dX7_result_110 ⟨Nat.zero_le _, Nat.zero_le _⟩)) (fun r_110 hr_110 => ?_)
    subst hr_110
    exact W.lret hx hb hr (fun t ht hW => ⟨_, rfl, hf.symm, ht⟩) (fun q hq => absurd hq List.not_mem_nil) dX7_result_113
  rcases Decidable.em (x1 = (0 : Int32)) with c_1_0 | c_1_0
  · have hf : f_X7_result k x1 x2 x3 = (f_X7_result_1 k x2) := hf.trans (if_pos c_1_0)
    refine lv_tableIn (tgt := 68) (off := 67) hx hb dX7_result_1 (by rw [c_1_0]; decide) (by rw [c_1_0]; decide) (by rw [c_1_0]; rfl) (by decide) ?_
    refine lv_aload_n hx hb dX7_result_68 rfl (lv_at hl 0 rfl) ?_
    refine lv_iload_n hx hb dX7_result_69 rfl (lv_at hl 1 rfl) ?_
    refine lv_lload_n hx hb dX7_result_70 rfl (lv_at hl 3 rfl) ?_
    refine vp_callSi (va_Run.run (va_runV (As := [.int (nI k), .long x2]) (rest := []) ⟨hx, hb, hml, hown, hts⟩ (c_X7_none l o r k h_k x2) (cwV 2 hts (gV iX7_none (zin__r7 (.methodLink RX7 98 yX7_none) (List.mem_of_getElem? (i := 17) rfl))) rfl rfl rfl (by decide +kernel) ⟨Nat.le_of_ble_eq_true rfl, Nat.le_of_ble_eq_true rfl⟩) ⟨fun a U g mk q => ⟨q.1, mU_bl q.2⟩, (mU_rv hm), fun U hU hW => ⟨rfl, mU_mv hm hU hW⟩⟩ rfl rfl hl.1 rfl (lv_room (Nat.le_of_ble_eq_true rfl)) dX7_result_71 ⟨Nat.zero_le _, Nat.zero_le _⟩)) (fun r_71 hr_71 => ?_)
    subst hr_71
    refine lv_if_eq (tgt := 81) hx hb dX7_result_74 (by decide) (fun c_74 => ?_) (fun c_74 => ?_)
    · have hf : f_X7_result k x1 x2 x3 = (f_X7_unsigned k x2) := hf.trans (if_pos c_74)
      refine lv_aload_n hx hb dX7_result_81 rfl (lv_at hl 0 rfl) ?_
      refine lv_iload_n hx hb dX7_result_82 rfl (lv_at hl 1 rfl) ?_
      refine lv_lload_n hx hb dX7_result_83 rfl (lv_at hl 3 rfl) ?_
      refine vp_callSl (va_Run.run (va_runV (As := [.int (nI k), .long x2]) (rest := []) ⟨hx, hb, hml, hown, hts⟩ (c_X7_unsigned l o r k h_k x2) (cwV 2 hts (gV iX7_unsigned (zin__r7 (.methodLink RX7 94 yX7_unsigned) (List.mem_of_getElem? (i := 4) rfl))) rfl rfl rfl (by decide +kernel) ⟨Nat.le_of_ble_eq_true rfl, Nat.le_of_ble_eq_true rfl⟩) ⟨fun a U g mk q => ⟨q.1, mU_bl q.2⟩, (mU_rv hm), fun U hU hW => ⟨rfl, mU_mv hm hU hW⟩⟩ rfl rfl hl.1 rfl (lv_room (Nat.le_of_ble_eq_true rfl)) dX7_result_84 ⟨Nat.zero_le _, Nat.zero_le _⟩)) (fun r_84 hr_84 => ?_)
      subst hr_84
      exact W.lret hx hb hr (fun t ht hW => ⟨_, rfl, hf.symm, ht⟩) (fun q hq => absurd hq List.not_mem_nil) dX7_result_87
    · have hf : f_X7_result k x1 x2 x3 = x2 := hf.trans (if_neg c_74)
      refine lv_lload_n hx hb dX7_result_77 rfl (lv_at hl 3 rfl) ?_
      refine lv_goto (tgt := 87) hx hb dX7_result_78 (by decide) ?_
      exact W.lret hx hb hr (fun t ht hW => ⟨_, rfl, hf.symm, ht⟩) (fun q hq => absurd hq List.not_mem_nil) dX7_result_87
  have hf : f_X7_result k x1 x2 x3 = (f_X7_result_18 k x1 x2 x3) := hf.trans (if_neg c_1_0)
  rcases Decidable.em (x1 = (1 : Int32)) with c_1_1 | c_1_1
  · have hf : f_X7_result k x1 x2 x3 = (f_X7_greater k x2 x3) := hf.trans (if_pos c_1_1)
    refine lv_tableIn (tgt := 88) (off := 87) hx hb dX7_result_1 (by rw [c_1_1]; decide) (by rw [c_1_1]; decide) (by rw [c_1_1]; rfl) (by decide) ?_
    refine lv_aload_n hx hb dX7_result_88 rfl (lv_at hl 0 rfl) ?_
    refine lv_iload_n hx hb dX7_result_89 rfl (lv_at hl 1 rfl) ?_
    refine lv_lload_n hx hb dX7_result_90 rfl (lv_at hl 3 rfl) ?_
    refine lv_lload hx hb dX7_result_91 (lv_at hl 4 rfl) ?_
    refine vp_callSl (va_Run.run (va_runV (As := [.int (nI k), .long x2, .long x3]) (rest := []) ⟨hx, hb, hml, hown, hts⟩ (c_X7_greater l o r k h_k x2 x3) (cwV 3 hts (gV iX7_greater (zin__r20 (.methodLink RX7 187 yX7_greater) (List.mem_of_getElem? (i := 14) rfl))) rfl rfl rfl (by decide +kernel) ⟨Nat.le_of_ble_eq_true rfl, Nat.le_of_ble_eq_true rfl⟩) ⟨fun a U g mk q => ⟨q.1, mU_bl q.2⟩, (mU_rv hm), fun U hU hW => ⟨rfl, mU_mv hm hU hW⟩⟩ rfl rfl hl.1 rfl (lv_room (Nat.le_of_ble_eq_true rfl)) dX7_result_93 ⟨Nat.zero_le _, Nat.zero_le _⟩)) (fun r_93 hr_93 => ?_)
    subst hr_93
    exact W.lret hx hb hr (fun t ht hW => ⟨_, rfl, hf.symm, ht⟩) (fun q hq => absurd hq List.not_mem_nil) dX7_result_96
  have hf : f_X7_result k x1 x2 x3 = (f_X7_result_17 k x1 x2 x3) := hf.trans (if_neg c_1_1)
  rcases Decidable.em (x1 = (2 : Int32)) with c_1_2 | c_1_2
  · have hf : f_X7_result k x1 x2 x3 = (f_X7_lesser k x2 x3) := hf.trans (if_pos c_1_2)
    refine lv_tableIn (tgt := 97) (off := 96) hx hb dX7_result_1 (by rw [c_1_2]; decide) (by rw [c_1_2]; decide) (by rw [c_1_2]; rfl) (by decide) ?_
    refine lv_aload_n hx hb dX7_result_97 rfl (lv_at hl 0 rfl) ?_
    refine lv_iload_n hx hb dX7_result_98 rfl (lv_at hl 1 rfl) ?_
    refine lv_lload_n hx hb dX7_result_99 rfl (lv_at hl 3 rfl) ?_
    refine lv_lload hx hb dX7_result_100 (lv_at hl 4 rfl) ?_
    refine vp_callSl (va_Run.run (va_runV (As := [.int (nI k), .long x2, .long x3]) (rest := []) ⟨hx, hb, hml, hown, hts⟩ (c_X7_lesser l o r k h_k x2 x3) (cwV 3 hts (gV iX7_lesser (zin__r20 (.methodLink RX7 190 yX7_lesser) (List.mem_of_getElem? (i := 18) rfl))) rfl rfl rfl (by decide +kernel) ⟨Nat.le_of_ble_eq_true rfl, Nat.le_of_ble_eq_true rfl⟩) ⟨fun a U g mk q => ⟨q.1, mU_bl q.2⟩, (mU_rv hm), fun U hU hW => ⟨rfl, mU_mv hm hU hW⟩⟩ rfl rfl hl.1 rfl (lv_room (Nat.le_of_ble_eq_true rfl)) dX7_result_102 ⟨Nat.zero_le _, Nat.zero_le _⟩)) (fun r_102 hr_102 => ?_)
    subst hr_102
    exact W.lret hx hb hr (fun t ht hW => ⟨_, rfl, hf.symm, ht⟩) (fun q hq => absurd hq List.not_mem_nil) dX7_result_105
  have hf : f_X7_result k x1 x2 x3 = (f_X7_result_16 k x1 x2 x3) := hf.trans (if_neg c_1_2)
  rcases Decidable.em (x1 = (3 : Int32)) with c_1_3 | c_1_3
  · have hf : f_X7_result k x1 x2 x3 = (f_X7_wholeOf k x2 x1) := hf.trans (if_pos c_1_3)
    refine lv_tableIn (tgt := 106) (off := 105) hx hb dX7_result_1 (by rw [c_1_3]; decide) (by rw [c_1_3]; decide) (by rw [c_1_3]; rfl) (by decide) ?_
    exact K_106 () ls hf (lv_sub hl [0, 1, 2, 3] rfl)
  have hf : f_X7_result k x1 x2 x3 = (f_X7_result_15 k x1 x2 x3) := hf.trans (if_neg c_1_3)
  rcases Decidable.em (x1 = (4 : Int32)) with c_1_4 | c_1_4
  · have hf : f_X7_result k x1 x2 x3 = (f_X7_wholeOf k x2 x1) := hf.trans (if_pos c_1_4)
    refine lv_tableIn (tgt := 106) (off := 105) hx hb dX7_result_1 (by rw [c_1_4]; decide) (by rw [c_1_4]; decide) (by rw [c_1_4]; rfl) (by decide) ?_
    exact K_106 () ls hf (lv_sub hl [0, 1, 2, 3] rfl)
  have hf : f_X7_result k x1 x2 x3 = (f_X7_result_14 k x1 x2 x3) := hf.trans (if_neg c_1_4)
  rcases Decidable.em (x1 = (5 : Int32)) with c_1_5 | c_1_5
  · have hf : f_X7_result k x1 x2 x3 = (f_X7_wholeOf k x2 x1) := hf.trans (if_pos c_1_5)
    refine lv_tableIn (tgt := 106) (off := 105) hx hb dX7_result_1 (by rw [c_1_5]; decide) (by rw [c_1_5]; decide) (by rw [c_1_5]; rfl) (by decide) ?_
    exact K_106 () ls hf (lv_sub hl [0, 1, 2, 3] rfl)
  have hf : f_X7_result k x1 x2 x3 = (f_X7_result_13 k x1 x2 x3) := hf.trans (if_neg c_1_5)
  rcases Decidable.em (x1 = (6 : Int32)) with c_1_6 | c_1_6
  · have hf : f_X7_result k x1 x2 x3 = (f_X7_result_3 k x2) := hf.trans (if_pos c_1_6)
    refine lv_tableIn (tgt := 114) (off := 113) hx hb dX7_result_1 (by rw [c_1_6]; decide) (by rw [c_1_6]; decide) (by rw [c_1_6]; rfl) (by decide) ?_
    refine lv_aload_n hx hb dX7_result_114 rfl (lv_at hl 0 rfl) ?_
    refine lv_iload_n hx hb dX7_result_115 rfl (lv_at hl 1 rfl) ?_
    refine lv_lload_n hx hb dX7_result_116 rfl (lv_at hl 3 rfl) ?_
    refine vp_callSi (va_Run.run (va_runV (As := [.int (nI k), .long x2]) (rest := []) ⟨hx, hb, hml, hown, hts⟩ (c_X7_none l o r k h_k x2) (cwV 2 hts (gV iX7_none (zin__r7 (.methodLink RX7 98 yX7_none) (List.mem_of_getElem? (i := 17) rfl))) rfl rfl rfl (by decide +kernel) ⟨Nat.le_of_ble_eq_true rfl, Nat.le_of_ble_eq_true rfl⟩) ⟨fun a U g mk q => ⟨q.1, mU_bl q.2⟩, (mU_rv hm), fun U hU hW => ⟨rfl, mU_mv hm hU hW⟩⟩ rfl rfl hl.1 rfl (lv_room (Nat.le_of_ble_eq_true rfl)) dX7_result_117 ⟨Nat.zero_le _, Nat.zero_le _⟩)) (fun r_117 hr_117 => ?_)
    subst hr_117
    refine lv_if_ne (tgt := 132) hx hb dX7_result_120 (by decide) (fun c_120 => ?_) (fun c_120 => ?_)
    · have hf : f_X7_result k x1 x2 x3 = x2 := hf.trans (if_neg c_120)
      refine lv_lload_n hx hb dX7_result_132 rfl (lv_at hl 3 rfl) ?_
      refine lv_goto (tgt := 153) hx hb dX7_result_133 (by decide) ?_
      exact W.lret hx hb hr (fun t ht hW => ⟨_, rfl, hf.symm, ht⟩) (fun q hq => absurd hq List.not_mem_nil) dX7_result_153
    · have hf : f_X7_result k x1 x2 x3 = (f_X7_result_2 k x2) := hf.trans (if_pos c_120)
      refine lv_aload_n hx hb dX7_result_123 rfl (lv_at hl 0 rfl) ?_
      refine lv_iload_n hx hb dX7_result_124 rfl (lv_at hl 1 rfl) ?_
      refine lv_lload_n hx hb dX7_result_125 rfl (lv_at hl 3 rfl) ?_
      refine vp_callSi (va_Run.run (va_runV (As := [.int (nI k), .long x2]) (rest := []) ⟨hx, hb, hml, hown, hts⟩ (c_X7_zero l o r k h_k x2) (cwV 2 hts (gV iX7_zero (zin__r7 (.methodLink RX7 102 yX7_zero) (List.mem_of_getElem? (i := 21) rfl))) rfl rfl rfl (by decide +kernel) ⟨Nat.le_of_ble_eq_true rfl, Nat.le_of_ble_eq_true rfl⟩) ⟨fun a U g mk q => ⟨q.1, mU_bl q.2⟩, (mU_rv hm), fun U hU hW => ⟨rfl, mU_mv hm hU hW⟩⟩ rfl rfl hl.1 rfl (lv_room (Nat.le_of_ble_eq_true rfl)) dX7_result_126 ⟨Nat.zero_le _, Nat.zero_le _⟩)) (fun r_126 hr_126 => ?_)
      subst hr_126
      refine lv_if_eq (tgt := 136) hx hb dX7_result_129 (by decide) (fun c_129 => ?_) (fun c_129 => ?_)
      · have hf : f_X7_result k x1 x2 x3 = (f_X7_signed k (kone k) (f_X7_minus k x2)) := hf.trans (if_pos c_129)
        refine lv_aload_n hx hb dX7_result_136 rfl (lv_at hl 0 rfl) ?_
        refine lv_iload_n hx hb dX7_result_137 rfl (lv_at hl 1 rfl) ?_
        refine lv_aload_n hx hb dX7_result_138 rfl (lv_at hl 0 rfl) ?_
        refine vk_getf hx hb (mE_ONE hm) va_S.rf hown (hts _ (zin__r3 (.fieldLink RX7 45 "ReckonBenchModel" "ONE" "[J") (List.mem_of_getElem? (i := 0) rfl))) (fun _ h9 => h9) dX7_result_139 ?_
        refine lv_iload_n hx hb dX7_result_142 rfl (lv_at hl 1 rfl) ?_
        refine va_tl hx hb (mT_ONE hm) va_S.rf (kin h_k) (v := .long (kone k)) (kev (fun j => Value.long (kone j)) h_k) dX7_result_143 ?_
        refine lv_aload_n hx hb dX7_result_144 rfl (lv_at hl 0 rfl) ?_
        refine lv_iload_n hx hb dX7_result_145 rfl (lv_at hl 1 rfl) ?_
        refine lv_lload_n hx hb dX7_result_146 rfl (lv_at hl 3 rfl) ?_
        refine vp_callSi (va_Run.run (va_runV (As := [.int (nI k), .long x2]) (rest := [.long (kone k), .int (nI k), .ref o]) ⟨hx, hb, hml, hown, hts⟩ (c_X7_minus l o r k h_k x2) (cwV 2 hts (gV iX7_minus (zin__r8 (.methodLink RX7 108 yX7_minus) (List.mem_of_getElem? (i := 5) rfl))) rfl rfl rfl (by decide +kernel) ⟨Nat.le_of_ble_eq_true rfl, Nat.le_of_ble_eq_true rfl⟩) ⟨fun a U g mk q => ⟨q.1, mU_bl q.2⟩, (mU_rv hm), fun U hU hW => ⟨rfl, mU_mv hm hU hW⟩⟩ rfl rfl hl.1 rfl (lv_room (Nat.le_of_ble_eq_true rfl)) dX7_result_147 ⟨Nat.zero_le _, Nat.zero_le _⟩)) (fun r_147 hr_147 => ?_)
        subst hr_147
        refine vp_callSl (va_Run.run (va_runV (As := [.int (nI k), .long (kone k), .int (f_X7_minus k x2)]) (rest := []) ⟨hx, hb, hml, hown, hts⟩ (c_X7_signed l o r k h_k (kone k) (f_X7_minus k x2)) (cwV 3 hts (gV iX7_signed (zin__r10 (.methodLink RX7 111 yX7_signed) (List.mem_of_getElem? (i := 5) rfl))) rfl rfl rfl (by decide +kernel) ⟨Nat.le_of_ble_eq_true rfl, Nat.le_of_ble_eq_true rfl⟩) ⟨fun a U g mk q => ⟨q.1, mU_bl q.2⟩, (mU_rv hm), fun U hU hW => ⟨rfl, mU_mv hm hU hW⟩⟩ rfl rfl hl.1 rfl (lv_room (Nat.le_of_ble_eq_true rfl)) dX7_result_150 ⟨Nat.zero_le _, Nat.zero_le _⟩)) (fun r_150 hr_150 => ?_)
        subst hr_150
        exact W.lret hx hb hr (fun t ht hW => ⟨_, rfl, hf.symm, ht⟩) (fun q hq => absurd hq List.not_mem_nil) dX7_result_153
      · have hf : f_X7_result k x1 x2 x3 = x2 := hf.trans (if_neg c_129)
        refine lv_lload_n hx hb dX7_result_132 rfl (lv_at hl 3 rfl) ?_
        refine lv_goto (tgt := 153) hx hb dX7_result_133 (by decide) ?_
        exact W.lret hx hb hr (fun t ht hW => ⟨_, rfl, hf.symm, ht⟩) (fun q hq => absurd hq List.not_mem_nil) dX7_result_153
  have hf : f_X7_result k x1 x2 x3 = (f_X7_result_12 k x1 x2 x3) := hf.trans (if_neg c_1_6)
  rcases Decidable.em (x1 = (7 : Int32)) with c_1_7 | c_1_7
  · have hf : f_X7_result k x1 x2 x3 = (f_X7_result_6 k x2 x3) := hf.trans (if_pos c_1_7)
    refine lv_tableIn (tgt := 154) (off := 153) hx hb dX7_result_1 (by rw [c_1_7]; decide) (by rw [c_1_7]; decide) (by rw [c_1_7]; rfl) (by decide) ?_
    refine lv_aload_n hx hb dX7_result_154 rfl (lv_at hl 0 rfl) ?_
    refine lv_iload_n hx hb dX7_result_155 rfl (lv_at hl 1 rfl) ?_
    refine lv_lload_n hx hb dX7_result_156 rfl (lv_at hl 3 rfl) ?_
    refine vp_callSi (va_Run.run (va_runV (As := [.int (nI k), .long x2]) (rest := []) ⟨hx, hb, hml, hown, hts⟩ (c_X7_none l o r k h_k x2) (cwV 2 hts (gV iX7_none (zin__r7 (.methodLink RX7 98 yX7_none) (List.mem_of_getElem? (i := 17) rfl))) rfl rfl rfl (by decide +kernel) ⟨Nat.le_of_ble_eq_true rfl, Nat.le_of_ble_eq_true rfl⟩) ⟨fun a U g mk q => ⟨q.1, mU_bl q.2⟩, (mU_rv hm), fun U hU hW => ⟨rfl, mU_mv hm hU hW⟩⟩ rfl rfl hl.1 rfl (lv_room (Nat.le_of_ble_eq_true rfl)) dX7_result_157 ⟨Nat.zero_le _, Nat.zero_le _⟩)) (fun r_157 hr_157 => ?_)
    subst hr_157
    refine W_cut (α := Unit) (pcJ := 173) (nL := 7) (fun v => f_X7_result k x1 x2 x3 = (f_X7_result_4 k)) (fun v => []) (fun v => [(0, .ref o), (1, .int (nI k))]) (fun v ls hf hl => ?_) (fun K_173 => ?_)
    · have hf : f_X7_result k x1 x2 x3 = (knan k) := hf
      have hl : lv_has ls 7 [(0, .ref o), (1, .int (nI k))] := hl
      refine lv_aload_n hx hb dX7_result_173 rfl (lv_at hl 0 rfl) ?_
      refine vk_getf hx hb (mE_NONE hm) va_S.rf hown (hts _ (zin__r2 (.fieldLink RX7 38 "ReckonBenchModel" "NONE" "[J") (List.mem_of_getElem? (i := 21) rfl))) (fun _ h9 => h9) dX7_result_174 ?_
      refine lv_iload_n hx hb dX7_result_177 rfl (lv_at hl 1 rfl) ?_
      refine va_tl hx hb (mT_NONE hm) va_S.rf (kin h_k) (v := .long (knan k)) (kev (fun j => Value.long (knan j)) h_k) dX7_result_178 ?_
      refine lv_goto (tgt := 195) hx hb dX7_result_179 (by decide) ?_
      exact W.lret hx hb hr (fun t ht hW => ⟨_, rfl, hf.symm, ht⟩) (fun q hq => absurd hq List.not_mem_nil) dX7_result_195
    refine lv_if_ne (tgt := 173) hx hb dX7_result_160 (by decide) (fun c_160 => ?_) (fun c_160 => ?_)
    · have hf : f_X7_result k x1 x2 x3 = (f_X7_result_4 k) := hf.trans (if_neg c_160)
      exact K_173 () ls hf (lv_sub hl [0, 1] rfl)
    · have hf : f_X7_result k x1 x2 x3 = (f_X7_result_5 k x2 x3) := hf.trans (if_pos c_160)
      refine lv_aload_n hx hb dX7_result_163 rfl (lv_at hl 0 rfl) ?_
      refine lv_iload_n hx hb dX7_result_164 rfl (lv_at hl 1 rfl) ?_
      refine lv_lload hx hb dX7_result_165 (lv_at hl 4 rfl) ?_
      refine vp_callSi (va_Run.run (va_runV (As := [.int (nI k), .long x3]) (rest := []) ⟨hx, hb, hml, hown, hts⟩ (c_X7_none l o r k h_k x3) (cwV 2 hts (gV iX7_none (zin__r7 (.methodLink RX7 98 yX7_none) (List.mem_of_getElem? (i := 17) rfl))) rfl rfl rfl (by decide +kernel) ⟨Nat.le_of_ble_eq_true rfl, Nat.le_of_ble_eq_true rfl⟩) ⟨fun a U g mk q => ⟨q.1, mU_bl q.2⟩, (mU_rv hm), fun U hU hW => ⟨rfl, mU_mv hm hU hW⟩⟩ rfl rfl hl.1 rfl (lv_room (Nat.le_of_ble_eq_true rfl)) dX7_result_167 ⟨Nat.zero_le _, Nat.zero_le _⟩)) (fun r_167 hr_167 => ?_)
      subst hr_167
      refine lv_if_eq (tgt := 182) hx hb dX7_result_170 (by decide) (fun c_170 => ?_) (fun c_170 => ?_)
      · have hf : f_X7_result k x1 x2 x3 = (f_X7_signed k x2 (f_X7_minus k x3)) := hf.trans (if_pos c_170)
        refine lv_aload_n hx hb dX7_result_182 rfl (lv_at hl 0 rfl) ?_
        refine lv_iload_n hx hb dX7_result_183 rfl (lv_at hl 1 rfl) ?_
        refine lv_lload_n hx hb dX7_result_184 rfl (lv_at hl 3 rfl) ?_
        refine lv_aload_n hx hb dX7_result_185 rfl (lv_at hl 0 rfl) ?_
        refine lv_iload_n hx hb dX7_result_186 rfl (lv_at hl 1 rfl) ?_
        refine lv_lload hx hb dX7_result_187 (lv_at hl 4 rfl) ?_
        refine vp_callSi (va_Run.run (va_runV (As := [.int (nI k), .long x3]) (rest := [.long x2, .int (nI k), .ref o]) ⟨hx, hb, hml, hown, hts⟩ (c_X7_minus l o r k h_k x3) (cwV 2 hts (gV iX7_minus (zin__r8 (.methodLink RX7 108 yX7_minus) (List.mem_of_getElem? (i := 5) rfl))) rfl rfl rfl (by decide +kernel) ⟨Nat.le_of_ble_eq_true rfl, Nat.le_of_ble_eq_true rfl⟩) ⟨fun a U g mk q => ⟨q.1, mU_bl q.2⟩, (mU_rv hm), fun U hU hW => ⟨rfl, mU_mv hm hU hW⟩⟩ rfl rfl hl.1 rfl (lv_room (Nat.le_of_ble_eq_true rfl)) dX7_result_189 ⟨Nat.zero_le _, Nat.zero_le _⟩)) (fun r_189 hr_189 => ?_)
        subst hr_189
        refine vp_callSl (va_Run.run (va_runV (As := [.int (nI k), .long x2, .int (f_X7_minus k x3)]) (rest := []) ⟨hx, hb, hml, hown, hts⟩ (c_X7_signed l o r k h_k x2 (f_X7_minus k x3)) (cwV 3 hts (gV iX7_signed (zin__r10 (.methodLink RX7 111 yX7_signed) (List.mem_of_getElem? (i := 5) rfl))) rfl rfl rfl (by decide +kernel) ⟨Nat.le_of_ble_eq_true rfl, Nat.le_of_ble_eq_true rfl⟩) ⟨fun a U g mk q => ⟨q.1, mU_bl q.2⟩, (mU_rv hm), fun U hU hW => ⟨rfl, mU_mv hm hU hW⟩⟩ rfl rfl hl.1 rfl (lv_room (Nat.le_of_ble_eq_true rfl)) dX7_result_192 ⟨Nat.zero_le _, Nat.zero_le _⟩)) (fun r_192 hr_192 => ?_)
        subst hr_192
        exact W.lret hx hb hr (fun t ht hW => ⟨_, rfl, hf.symm, ht⟩) (fun q hq => absurd hq List.not_mem_nil) dX7_result_195
      · have hf : f_X7_result k x1 x2 x3 = (f_X7_result_4 k) := hf.trans (if_neg c_170)
        exact K_173 () ls hf (lv_sub hl [0, 1] rfl)
  have hf : f_X7_result k x1 x2 x3 = (f_X7_result_11 k x1 x2 x3) := hf.trans (if_neg c_1_7)
  rcases Decidable.em (x1 = (8 : Int32)) with c_1_8 | c_1_8
  · have hf : f_X7_result k x1 x2 x3 = (f_X7_plus k x2 x3) := hf.trans (if_pos c_1_8)
    refine lv_tableIn (tgt := 196) (off := 195) hx hb dX7_result_1 (by rw [c_1_8]; decide) (by rw [c_1_8]; decide) (by rw [c_1_8]; rfl) (by decide) ?_
    refine lv_aload_n hx hb dX7_result_196 rfl (lv_at hl 0 rfl) ?_
    refine lv_iload_n hx hb dX7_result_197 rfl (lv_at hl 1 rfl) ?_
    refine lv_lload_n hx hb dX7_result_198 rfl (lv_at hl 3 rfl) ?_
    refine lv_lload hx hb dX7_result_199 (lv_at hl 4 rfl) ?_
    refine vp_callSl (va_Run.run (va_runV (As := [.int (nI k), .long x2, .long x3]) (rest := []) ⟨hx, hb, hml, hown, hts⟩ (c_X7_plus l o r k h_k x2 x3 hc1 hc2) (cwV 3 hts (gV iX7_plus (zin__r21 (.methodLink RX7 197 yX7_plus) (List.mem_of_getElem? (i := 2) rfl))) rfl rfl rfl (by decide +kernel) ⟨Nat.le_of_ble_eq_true rfl, Nat.le_of_ble_eq_true rfl⟩) ⟨fun a U g mk q => ⟨q.1, mU_bl q.2⟩, (mU_rv hm), fun U hU hW => ⟨rfl, mU_mv hm hU hW⟩⟩ rfl rfl hl.1 rfl (lv_room (Nat.le_of_ble_eq_true rfl)) dX7_result_201 ⟨Nat.zero_le _, Nat.zero_le _⟩)) (fun r_201 hr_201 => ?_)
    subst hr_201
    exact W.lret hx hb hr (fun t ht hW => ⟨_, rfl, hf.symm, ht⟩) (fun q hq => absurd hq List.not_mem_nil) dX7_result_204
  have hf : f_X7_result k x1 x2 x3 = (f_X7_result_10 k x1 x2 x3) := hf.trans (if_neg c_1_8)
  rcases Decidable.em (x1 = (9 : Int32)) with c_1_9 | c_1_9
  · have hf : f_X7_result k x1 x2 x3 = (f_X7_plus k x2 (f_X7_turned k x3)) := hf.trans (if_pos c_1_9)
    refine lv_tableIn (tgt := 205) (off := 204) hx hb dX7_result_1 (by rw [c_1_9]; decide) (by rw [c_1_9]; decide) (by rw [c_1_9]; rfl) (by decide) ?_
    refine lv_aload_n hx hb dX7_result_205 rfl (lv_at hl 0 rfl) ?_
    refine lv_iload_n hx hb dX7_result_206 rfl (lv_at hl 1 rfl) ?_
    refine lv_lload_n hx hb dX7_result_207 rfl (lv_at hl 3 rfl) ?_
    refine lv_aload_n hx hb dX7_result_208 rfl (lv_at hl 0 rfl) ?_
    refine lv_iload_n hx hb dX7_result_209 rfl (lv_at hl 1 rfl) ?_
    refine lv_lload hx hb dX7_result_210 (lv_at hl 4 rfl) ?_
    refine vp_callSl (va_Run.run (va_runV (As := [.int (nI k), .long x3]) (rest := [.long x2, .int (nI k), .ref o]) ⟨hx, hb, hml, hown, hts⟩ (c_X7_turned l o r k h_k x3) (cwV 2 hts (gV iX7_turned (zin__r21 (.methodLink RX7 200 yX7_turned) (List.mem_of_getElem? (i := 10) rfl))) rfl rfl rfl (by decide +kernel) ⟨Nat.le_of_ble_eq_true rfl, Nat.le_of_ble_eq_true rfl⟩) ⟨fun a U g mk q => ⟨q.1, mU_bl q.2⟩, (mU_rv hm), fun U hU hW => ⟨rfl, mU_mv hm hU hW⟩⟩ rfl rfl hl.1 rfl (lv_room (Nat.le_of_ble_eq_true rfl)) dX7_result_212 ⟨Nat.zero_le _, Nat.zero_le _⟩)) (fun r_212 hr_212 => ?_)
    subst hr_212
    refine vp_callSl (va_Run.run (va_runV (As := [.int (nI k), .long x2, .long (f_X7_turned k x3)]) (rest := []) ⟨hx, hb, hml, hown, hts⟩ (c_X7_plus l o r k h_k x2 (f_X7_turned k x3) hc1 (kcn_turned h_k hc2)) (cwV 3 hts (gV iX7_plus (zin__r21 (.methodLink RX7 197 yX7_plus) (List.mem_of_getElem? (i := 2) rfl))) rfl rfl rfl (by decide +kernel) ⟨Nat.le_of_ble_eq_true rfl, Nat.le_of_ble_eq_true rfl⟩) ⟨fun a U g mk q => ⟨q.1, mU_bl q.2⟩, (mU_rv hm), fun U hU hW => ⟨rfl, mU_mv hm hU hW⟩⟩ rfl rfl hl.1 rfl (lv_room (Nat.le_of_ble_eq_true rfl)) dX7_result_215 ⟨Nat.zero_le _, Nat.zero_le _⟩)) (fun r_215 hr_215 => ?_)
    subst hr_215
    exact W.lret hx hb hr (fun t ht hW => ⟨_, rfl, hf.symm, ht⟩) (fun q hq => absurd hq List.not_mem_nil) dX7_result_218
  have hf : f_X7_result k x1 x2 x3 = (f_X7_result_9 k x1 x2 x3) := hf.trans (if_neg c_1_9)
  rcases Decidable.em (x1 = (10 : Int32)) with c_1_10 | c_1_10
  · have hf : f_X7_result k x1 x2 x3 = (f_X7_times k x2 x3) := hf.trans (if_pos c_1_10)
    refine lv_tableIn (tgt := 219) (off := 218) hx hb dX7_result_1 (by rw [c_1_10]; decide) (by rw [c_1_10]; decide) (by rw [c_1_10]; rfl) (by decide) ?_
    refine lv_aload_n hx hb dX7_result_219 rfl (lv_at hl 0 rfl) ?_
    refine lv_iload_n hx hb dX7_result_220 rfl (lv_at hl 1 rfl) ?_
    refine lv_lload_n hx hb dX7_result_221 rfl (lv_at hl 3 rfl) ?_
    refine lv_lload hx hb dX7_result_222 (lv_at hl 4 rfl) ?_
    refine vp_callSl (va_Run.run (va_runV (As := [.int (nI k), .long x2, .long x3]) (rest := []) ⟨hx, hb, hml, hown, hts⟩ (c_X7_times l o r k h_k x2 x3 hc1 hc2) (cwV 3 hts (gV iX7_times (zin__r21 (.methodLink RX7 203 yX7_times) (List.mem_of_getElem? (i := 14) rfl))) rfl rfl rfl (by decide +kernel) ⟨Nat.le_of_ble_eq_true rfl, Nat.le_of_ble_eq_true rfl⟩) ⟨fun a U g mk q => ⟨q.1, mU_bl q.2⟩, (mU_rv hm), fun U hU hW => ⟨rfl, mU_mv hm hU hW⟩⟩ rfl rfl hl.1 rfl (lv_room (Nat.le_of_ble_eq_true rfl)) dX7_result_224 ⟨Nat.zero_le _, Nat.zero_le _⟩)) (fun r_224 hr_224 => ?_)
    subst hr_224
    exact W.lret hx hb hr (fun t ht hW => ⟨_, rfl, hf.symm, ht⟩) (fun q hq => absurd hq List.not_mem_nil) dX7_result_227
  have hf : f_X7_result k x1 x2 x3 = (f_X7_result_8 k x1 x2 x3) := hf.trans (if_neg c_1_10)
  rcases Decidable.em (x1 = (11 : Int32)) with c_1_11 | c_1_11
  · have hf : f_X7_result k x1 x2 x3 = (f_X7_over k x2 x3) := hf.trans (if_pos c_1_11)
    refine lv_tableIn (tgt := 228) (off := 227) hx hb dX7_result_1 (by rw [c_1_11]; decide) (by rw [c_1_11]; decide) (by rw [c_1_11]; rfl) (by decide) ?_
    refine lv_aload_n hx hb dX7_result_228 rfl (lv_at hl 0 rfl) ?_
    refine lv_iload_n hx hb dX7_result_229 rfl (lv_at hl 1 rfl) ?_
    refine lv_lload_n hx hb dX7_result_230 rfl (lv_at hl 3 rfl) ?_
    refine lv_lload hx hb dX7_result_231 (lv_at hl 4 rfl) ?_
    refine vp_callSl (va_Run.run (va_runV (As := [.int (nI k), .long x2, .long x3]) (rest := []) ⟨hx, hb, hml, hown, hts⟩ (c_X7_over l o r k h_k x2 x3 hc1 hc2) (cwV 3 hts (gV iX7_over (zin__r21 (.methodLink RX7 206 yX7_over) (List.mem_of_getElem? (i := 20) rfl))) rfl rfl rfl (by decide +kernel) ⟨Nat.le_of_ble_eq_true rfl, Nat.le_of_ble_eq_true rfl⟩) ⟨fun a U g mk q => ⟨q.1, mU_bl q.2⟩, (mU_rv hm), fun U hU hW => ⟨rfl, mU_mv hm hU hW⟩⟩ rfl rfl hl.1 rfl (lv_room (Nat.le_of_ble_eq_true rfl)) dX7_result_233 ⟨Nat.zero_le _, Nat.zero_le _⟩)) (fun r_233 hr_233 => ?_)
    subst hr_233
    exact W.lret hx hb hr (fun t ht hW => ⟨_, rfl, hf.symm, ht⟩) (fun q hq => absurd hq List.not_mem_nil) dX7_result_236
  have hf : f_X7_result k x1 x2 x3 = (f_X7_result_7 k x1 x2 x3) := hf.trans (if_neg c_1_11)
  rcases Decidable.em (x1 = (12 : Int32)) with c_1_12 | c_1_12
  · have hf : f_X7_result k x1 x2 x3 = (f_X7_left k x2 x3) := hf.trans (if_pos c_1_12)
    refine lv_tableIn (tgt := 237) (off := 236) hx hb dX7_result_1 (by rw [c_1_12]; decide) (by rw [c_1_12]; decide) (by rw [c_1_12]; rfl) (by decide) ?_
    refine lv_aload_n hx hb dX7_result_237 rfl (lv_at hl 0 rfl) ?_
    refine lv_iload_n hx hb dX7_result_238 rfl (lv_at hl 1 rfl) ?_
    refine lv_lload_n hx hb dX7_result_239 rfl (lv_at hl 3 rfl) ?_
    refine lv_lload hx hb dX7_result_240 (lv_at hl 4 rfl) ?_
    refine vp_callSl (va_Run.run (va_runV (As := [.int (nI k), .long x2, .long x3]) (rest := []) ⟨hx, hb, hml, hown, hts⟩ (c_X7_left l o r k h_k x2 x3 hc1 hc2) (cwV 3 hts (gV iX7_left (zin__r22 (.methodLink RX7 209 yX7_left) (List.mem_of_getElem? (i := 0) rfl))) rfl rfl rfl (by decide +kernel) ⟨Nat.le_of_ble_eq_true rfl, Nat.le_of_ble_eq_true rfl⟩) ⟨fun a U g mk q => ⟨q.1, mU_bl q.2⟩, (mU_rv hm), fun U hU hW => ⟨rfl, mU_mv hm hU hW⟩⟩ rfl rfl hl.1 rfl (lv_room (Nat.le_of_ble_eq_true rfl)) dX7_result_242 ⟨Nat.zero_le _, Nat.zero_le _⟩)) (fun r_242 hr_242 => ?_)
    subst hr_242
    exact W.lret hx hb hr (fun t ht hW => ⟨_, rfl, hf.symm, ht⟩) (fun q hq => absurd hq List.not_mem_nil) dX7_result_245
  have hf : f_X7_result k x1 x2 x3 = (f_X7_turned k x2) := hf.trans (if_neg c_1_12)
  refine lv_tableOut (tgt := 246) hx hb dX7_result_1 (Classical.byContradiction fun hh => by
      have := lv_neT (a := 0) c_1_0 (by decide)
      have := lv_neT (a := 1) c_1_1 (by decide)
      have := lv_neT (a := 2) c_1_2 (by decide)
      have := lv_neT (a := 3) c_1_3 (by decide)
      have := lv_neT (a := 4) c_1_4 (by decide)
      have := lv_neT (a := 5) c_1_5 (by decide)
      have := lv_neT (a := 6) c_1_6 (by decide)
      have := lv_neT (a := 7) c_1_7 (by decide)
      have := lv_neT (a := 8) c_1_8 (by decide)
      have := lv_neT (a := 9) c_1_9 (by decide)
      have := lv_neT (a := 10) c_1_10 (by decide)
      have := lv_neT (a := 11) c_1_11 (by decide)
      have := lv_neT (a := 12) c_1_12 (by decide)
      omega) (by decide) ?_
  refine lv_aload_n hx hb dX7_result_246 rfl (lv_at hl 0 rfl) ?_
  refine lv_iload_n hx hb dX7_result_247 rfl (lv_at hl 1 rfl) ?_
  refine lv_lload_n hx hb dX7_result_248 rfl (lv_at hl 3 rfl) ?_
  refine vp_callSl (va_Run.run (va_runV (As := [.int (nI k), .long x2]) (rest := []) ⟨hx, hb, hml, hown, hts⟩ (c_X7_turned l o r k h_k x2) (cwV 2 hts (gV iX7_turned (zin__r21 (.methodLink RX7 200 yX7_turned) (List.mem_of_getElem? (i := 10) rfl))) rfl rfl rfl (by decide +kernel) ⟨Nat.le_of_ble_eq_true rfl, Nat.le_of_ble_eq_true rfl⟩) ⟨fun a U g mk q => ⟨q.1, mU_bl q.2⟩, (mU_rv hm), fun U hU hW => ⟨rfl, mU_mv hm hU hW⟩⟩ rfl rfl hl.1 rfl (lv_room (Nat.le_of_ble_eq_true rfl)) dX7_result_249 ⟨Nat.zero_le _, Nat.zero_le _⟩)) (fun r_249 hr_249 => ?_)
  subst hr_249
  exact W.lret hx hb hr (fun t ht hW => ⟨_, rfl, hf.symm, ht⟩) (fun q hq => absurd hq List.not_mem_nil) dX7_result_252
def f_X7_member_1 (k : Nat) (w_1 : Int64) : Int64 := if (f_X7_none k w_1) = 0 then w_1 else (0 : Int64)
def f_X7_member_2 (k : Nat) (x1 : Int32) (x2 : Int64) (x3 : Int64) : Int64 := if x1 = (2 : Int32) then (f_X7_member_1 k (f_X7_times k x2 x3)) else (f_X7_member_1 k (f_X7_over k x2 x3))
def f_X7_member (k : Nat) (x1 : Int32) (x2 : Int64) (x3 : Int64) : Int64 := (f_X7_member_2 k x1 x2 x3)
def zX7_member : List Cond := .code yX7_member cX7_member 9 (some .long) :: zall
theorem iX7_member : MWv RX7 yX7_member (.code yX7_member cX7_member 9 (some .long)) := ⟨(zin__r30 (.instanceMethod yX7_member) (List.mem_of_getElem? (i := 16) rfl)), (zin__r30 (.selects RX7 yX7_member yX7_member) (List.mem_of_getElem? (i := 17) rfl)), (zin__r1 (.initialized RX7) (List.mem_of_getElem? (i := 5) rfl)), (zin__r30 (.code yX7_member cX7_member 9 (some .long)) (List.mem_of_getElem? (i := 18) rfl))⟩
set_option maxHeartbeats 4000000 in
set_option maxRecDepth 100000 in
theorem c_X7_member (l : Launch) (o : Nat) (r : Nat → Nat) (k : Nat) (h_k : k < 2) (x1 : Int32) (x2 : Int64) (x3 : Int64) (hc1 : kcn k x2) (hc2 : kcn k x3) : Met l yX7_member zX7_member ({ frames := 3, cells := 0, slots := 0, locals := 98 }) (va_Pc [.ref o, .int (nI k), .int x1, .long x2, .long x3] (fun U => mU o r U)) (vp_Sl (fun r => r = f_X7_member k x1 x2 x3)) 0 0 (fun _ => False) := by
  refine Met.ofW (cc := cX7_member) (maxL := 9) (ret := (some .long)) (by decide) rfl ?_
  intro p e s m args below meth c s₁ B hml hv
  obtain ⟨rfl, hm⟩ := hv
  have hx := B.exec
  have hb := B.bytes
  have hr := B.returns
  have hts : ∀ w ∈ zall, w.before _ s = true := fun w h => atoms_spec (ws := zX7_member) B.pre w (List.mem_cons_of_mem _ h)
  have hown : s.vm.findClass RX7 = some m.cls := findClass_of_methodNamed B.named
  have hlocks := B.notSynchronized
  have hl := lv_entry ([.ref o, .int (nI k), .int x1, .long x2, .long x3]) (n := 9) (Nat.le_of_ble_eq_true rfl)
  rw [lg_entry_eq]
  generalize (lg_sl ([.ref o, .int (nI k), .int x1, .long x2, .long x3]) ++ List.replicate (9 - (lg_sl ([.ref o, .int (nI k), .int x1, .long x2, .long x3])).length) Slot.unset).toArray = ls at hl ⊢
  have hl : lv_has ls 9 [(0, .ref o), (1, .int (nI k)), (2, .int x1), (3, .long x2), (5, .long x3)] := hl
  have hf : f_X7_member k x1 x2 x3 = (f_X7_member_2 k x1 x2 x3) := rfl
  refine lv_iload_n hx hb dX7_member_0 rfl (lv_at hl 2 rfl) ?_
  refine lv_iconst (v := 2) hx hb dX7_member_1 (by decide) ?_
  refine W_cut (α := Int64) (pcJ := 24) (nL := 9) (fun v => f_X7_member k x1 x2 x3 = (f_X7_member_1 k v)) (fun v => [.long v]) (fun v => [(0, .ref o), (1, .int (nI k))]) (fun w_1 ls hf hl => ?_) (fun K_24 => ?_)
  · have hf : f_X7_member k x1 x2 x3 = (f_X7_member_1 k w_1) := hf
    have hl : lv_has ls 9 [(0, .ref o), (1, .int (nI k))] := hl
    refine lv_lstore (lv' := [(7, .long w_1), (0, .ref o), (1, .int (nI k))]) hx hb dX7_member_24 hl (by decide) rfl (fun ls hl => ?_)
    refine lv_aload_n hx hb dX7_member_26 rfl (lv_at hl 1 rfl) ?_
    refine lv_iload_n hx hb dX7_member_27 rfl (lv_at hl 2 rfl) ?_
    refine lv_lload hx hb dX7_member_28 (lv_at hl 0 rfl) ?_
    refine vp_callSi (va_Run.run (va_runV (As := [.int (nI k), .long w_1]) (rest := []) ⟨hx, hb, hml, hown, hts⟩ (c_X7_none l o r k h_k w_1) (cwV 2 hts (gV iX7_none (zin__r7 (.methodLink RX7 98 yX7_none) (List.mem_of_getElem? (i := 17) rfl))) rfl rfl rfl (by decide +kernel) ⟨Nat.le_of_ble_eq_true rfl, Nat.le_of_ble_eq_true rfl⟩) ⟨fun a U g mk q => ⟨q.1, mU_bl q.2⟩, (mU_rv hm), fun U hU hW => ⟨rfl, mU_mv hm hU hW⟩⟩ rfl rfl hl.1 rfl (lv_room (Nat.le_of_ble_eq_true rfl)) dX7_member_30 ⟨Nat.zero_le _, Nat.zero_le _⟩)) (fun r_30 hr_30 => ?_)
    subst hr_30
    refine lv_if_eq (tgt := 40) hx hb dX7_member_33 (by decide) (fun c_33 => ?_) (fun c_33 => ?_)
    · have hf : f_X7_member k x1 x2 x3 = w_1 := hf.trans (if_pos c_33)
      refine lv_lload hx hb dX7_member_40 (lv_at hl 0 rfl) ?_
      exact W.lret hx hb hr (fun t ht hW => ⟨_, rfl, hf.symm, ht⟩) (fun q hq => absurd hq List.not_mem_nil) dX7_member_42
    · have hf : f_X7_member k x1 x2 x3 = (0 : Int64) := hf.trans (if_neg c_33)
      refine lv_lconst (v := 0) hx hb dX7_member_36 (by decide) ?_
      refine lv_goto (tgt := 42) hx hb dX7_member_37 (by decide) ?_
      exact W.lret hx hb hr (fun t ht hW => ⟨_, rfl, hf.symm, ht⟩) (fun q hq => absurd hq List.not_mem_nil) dX7_member_42
  refine lv_icmp_ne (tgt := 16) hx hb dX7_member_2 (by decide) (fun c_2 => ?_) (fun c_2 => ?_)
  · have hf : f_X7_member k x1 x2 x3 = (f_X7_member_1 k (f_X7_over k x2 x3)) := hf.trans (if_neg c_2)
    refine lv_aload_n hx hb dX7_member_16 rfl (lv_at hl 0 rfl) ?_
    refine lv_iload_n hx hb dX7_member_17 rfl (lv_at hl 1 rfl) ?_
    refine lv_lload_n hx hb dX7_member_18 rfl (lv_at hl 3 rfl) ?_
    refine lv_lload hx hb dX7_member_19 (lv_at hl 4 rfl) ?_
    refine vp_callSl (va_Run.run (va_runV (As := [.int (nI k), .long x2, .long x3]) (rest := []) ⟨hx, hb, hml, hown, hts⟩ (c_X7_over l o r k h_k x2 x3 hc1 hc2) (cwV 3 hts (gV iX7_over (zin__r21 (.methodLink RX7 206 yX7_over) (List.mem_of_getElem? (i := 20) rfl))) rfl rfl rfl (by decide +kernel) ⟨Nat.le_of_ble_eq_true rfl, Nat.le_of_ble_eq_true rfl⟩) ⟨fun a U g mk q => ⟨q.1, mU_bl q.2⟩, (mU_rv hm), fun U hU hW => ⟨rfl, mU_mv hm hU hW⟩⟩ rfl rfl hl.1 rfl (lv_room (Nat.le_of_ble_eq_true rfl)) dX7_member_21 ⟨Nat.zero_le _, Nat.zero_le _⟩)) (fun r_21 hr_21 => ?_)
    subst hr_21
    exact K_24 (f_X7_over k x2 x3) ls hf (lv_sub hl [0, 1] rfl)
  · have hf : f_X7_member k x1 x2 x3 = (f_X7_member_1 k (f_X7_times k x2 x3)) := hf.trans (if_pos c_2)
    refine lv_aload_n hx hb dX7_member_5 rfl (lv_at hl 0 rfl) ?_
    refine lv_iload_n hx hb dX7_member_6 rfl (lv_at hl 1 rfl) ?_
    refine lv_lload_n hx hb dX7_member_7 rfl (lv_at hl 3 rfl) ?_
    refine lv_lload hx hb dX7_member_8 (lv_at hl 4 rfl) ?_
    refine vp_callSl (va_Run.run (va_runV (As := [.int (nI k), .long x2, .long x3]) (rest := []) ⟨hx, hb, hml, hown, hts⟩ (c_X7_times l o r k h_k x2 x3 hc1 hc2) (cwV 3 hts (gV iX7_times (zin__r21 (.methodLink RX7 203 yX7_times) (List.mem_of_getElem? (i := 14) rfl))) rfl rfl rfl (by decide +kernel) ⟨Nat.le_of_ble_eq_true rfl, Nat.le_of_ble_eq_true rfl⟩) ⟨fun a U g mk q => ⟨q.1, mU_bl q.2⟩, (mU_rv hm), fun U hU hW => ⟨rfl, mU_mv hm hU hW⟩⟩ rfl rfl hl.1 rfl (lv_room (Nat.le_of_ble_eq_true rfl)) dX7_member_10 ⟨Nat.zero_le _, Nat.zero_le _⟩)) (fun r_10 hr_10 => ?_)
    subst hr_10
    refine lv_goto (tgt := 24) hx hb dX7_member_13 (by decide) ?_
    exact K_24 (f_X7_times k x2 x3) ls hf (lv_sub hl [0, 1] rfl)
