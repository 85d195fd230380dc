def f_X7_size (S : MSt) (x1 : Int32) : Int32 := ((nI (mf S (x1 + (1 : Int32)).toNatClampNeg)) - (nI (mf S x1.toNatClampNeg)))
def zX7_size : List Cond := .code yX7_size cX7_size 2 (some .int) :: zall
theorem iX7_size : MWv RX7 yX7_size (.code yX7_size cX7_size 2 (some .int)) := ⟨(zin__r6 (.instanceMethod yX7_size) (List.mem_of_getElem? (i := 20) rfl)), (zin__r6 (.selects RX7 yX7_size yX7_size) (List.mem_of_getElem? (i := 21) rfl)), (zin__r1 (.initialized RX7) (List.mem_of_getElem? (i := 5) rfl)), (zin__r6 (.code yX7_size cX7_size 2 (some .int)) (List.mem_of_getElem? (i := 22) rfl))⟩
set_option maxHeartbeats 4000000 in
set_option maxRecDepth 100000 in
theorem c_X7_size (l : Launch) (dC : Nat → ClassId) (dI : Nat → Nat → Nat) (o : Nat) (r : Nat → Nat) (cI cJ : ClassId) (S : MSt) (x1 : Int32) (h1 : vp_in (x1 + (1 : Int32)) 65) (h2 : vp_in x1 65) : Met l yX7_size zX7_size ({ frames := 0, cells := 0, slots := 0, locals := 0 }) (va_Pc [.ref o, .int x1] (fun U => mW dC dI o r cI cJ S U)) (vp_Si (fun r => r = f_X7_size S x1)) 0 0 (fun _ => False) := by
  refine Met.ofW (cc := cX7_size) (maxL := 2) (ret := (some .int)) (by decide) rfl ?_
  intro p e s m args below meth c s₁ B hml hv
  obtain ⟨rfl, hw⟩ := hv
  have hx := B.exec
  have hb := B.bytes
  have hr := B.returns
  have hts : ∀ w ∈ zall, w.before _ s = true := fun w h => atoms_spec (ws := zX7_size) B.pre w (List.mem_cons_of_mem _ h)
  have hown : s.vm.findClass RX7 = some m.cls := findClass_of_methodNamed B.named
  have hlocks := B.notSynchronized
  obtain ⟨hP, hK⟩ := id hw
  have hm := mA_of hts hw
  have hl := lv_entry ([.ref o, .int x1]) (n := 2) (Nat.le_of_ble_eq_true rfl)
  rw [lg_entry_eq]
  generalize (lg_sl ([.ref o, .int x1]) ++ List.replicate (2 - (lg_sl ([.ref o, .int x1])).length) Slot.unset).toArray = ls at hl ⊢
  have hl : lv_has ls 2 [(0, .ref o), (1, .int x1)] := hl
  have hf : f_X7_size S x1 = ((nI (mf S (x1 + (1 : Int32)).toNatClampNeg)) - (nI (mf S x1.toNatClampNeg))) := rfl
  refine lv_aload_n hx hb dX7_size_0 rfl (lv_at hl 0 rfl) ?_
  refine va_get (D := (dC, dI)) (ci := 5) (v := .ref (r 7)) (C := RX7) (T := TX7) (N := 18) hx hb hts zin_X7 hown hK hP 0 rfl rfl 7 (by decide) (hts _ (zin__r3 (.fieldLink RX7 48 "ReckonBenchModel" "first" "[I") (List.mem_of_getElem? (i := 1) rfl))) (fun _ h9 => h9) rfl dX7_size_1 ?_
  refine lv_iload_n hx hb dX7_size_4 rfl (lv_at hl 1 rfl) ?_
  refine lv_iconst (v := 1) hx hb dX7_size_5 (by decide) ?_
  refine lv_iadd hx hb dX7_size_6 ?_
  refine va_iald (f := fun j => nI (mf S j)) hx hb hK hP 8 0 rfl rfl h1 dX7_size_7 ?_
  refine lv_aload_n hx hb dX7_size_8 rfl (lv_at hl 0 rfl) ?_
  refine va_get (D := (dC, dI)) (ci := 5) (v := .ref (r 7)) (C := RX7) (T := TX7) (N := 18) hx hb hts zin_X7 hown hK hP 0 rfl rfl 7 (by decide) (hts _ (zin__r3 (.fieldLink RX7 48 "ReckonBenchModel" "first" "[I") (List.mem_of_getElem? (i := 1) rfl))) (fun _ h9 => h9) rfl dX7_size_9 ?_
  refine lv_iload_n hx hb dX7_size_12 rfl (lv_at hl 1 rfl) ?_
  refine va_iald (f := fun j => nI (mf S j)) hx hb hK hP 8 0 rfl rfl h2 dX7_size_13 ?_
  refine lv_isub hx hb dX7_size_14 ?_
  exact W.iret hx hb hr (fun t ht hW => ⟨_, rfl, hf.symm, ht⟩) (fun q hq => absurd hq List.not_mem_nil) dX7_size_15
def f_X7_bad_1 (x1 : Int32) (x2 : Int32) (S : MSt) : Int32 := if x2 < (f_X7_size S x1) then (0 : Int32) else (2 : Int32)
def f_X7_bad_2 (x1 : Int32) (x2 : Int32) (S : MSt) : Int32 := if x2 < 0 then (2 : Int32) else (f_X7_bad_1 x1 x2 S)
def f_X7_bad_3 (x1 : Int32) (x2 : Int32) (S : MSt) : Int32 := if x1 < (nI (mn S)) then (f_X7_bad_2 x1 x2 S) else (1 : Int32)
def f_X7_bad_4 (x1 : Int32) (x2 : Int32) (S : MSt) : Int32 := if x1 < 0 then (1 : Int32) else (f_X7_bad_3 x1 x2 S)
def f_X7_bad (S : MSt) (x1 : Int32) (x2 : Int32) : Int32 := (f_X7_bad_4 x1 x2 S)
def zX7_bad : List Cond := .code yX7_bad cX7_bad 3 (some .int) :: zall
theorem iX7_bad : MWv RX7 yX7_bad (.code yX7_bad cX7_bad 3 (some .int)) := ⟨(zin__r6 (.instanceMethod yX7_bad) (List.mem_of_getElem? (i := 16) rfl)), (zin__r6 (.selects RX7 yX7_bad yX7_bad) (List.mem_of_getElem? (i := 17) rfl)), (zin__r1 (.initialized RX7) (List.mem_of_getElem? (i := 5) rfl)), (zin__r6 (.code yX7_bad cX7_bad 3 (some .int)) (List.mem_of_getElem? (i := 18) rfl))⟩
set_option maxHeartbeats 4000000 in
set_option maxRecDepth 100000 in
theorem c_X7_bad (l : Launch) (dC : Nat → ClassId) (dI : Nat → Nat → Nat) (o : Nat) (r : Nat → Nat) (cI cJ : ClassId) (S : MSt) (x1 : Int32) (x2 : Int32) (hI : mInv S) : Met l yX7_bad zX7_bad ({ frames := 1, cells := 0, slots := 0, locals := 21 }) (va_Pc [.ref o, .int x1, .int x2] (fun U => mW dC dI o r cI cJ S U)) (vp_Si (fun r => r = f_X7_bad S x1 x2)) 0 0 (fun _ => False) := by
  refine Met.ofW (cc := cX7_bad) (maxL := 3) (ret := (some .int)) (by decide) rfl ?_
  intro p e s m args below meth c s₁ B hml hv
  obtain ⟨rfl, hw⟩ := hv
  have hx := B.exec
  have hb := B.bytes
  have hr := B.returns
  have hts : ∀ w ∈ zall, w.before _ s = true := fun w h => atoms_spec (ws := zX7_bad) B.pre w (List.mem_cons_of_mem _ h)
  have hown : s.vm.findClass RX7 = some m.cls := findClass_of_methodNamed B.named
  have hlocks := B.notSynchronized
  obtain ⟨hP, hK⟩ := id hw
  have hm := mA_of hts hw
  have hl := lv_entry ([.ref o, .int x1, .int x2]) (n := 3) (Nat.le_of_ble_eq_true rfl)
  rw [lg_entry_eq]
  generalize (lg_sl ([.ref o, .int x1, .int x2]) ++ List.replicate (3 - (lg_sl ([.ref o, .int x1, .int x2])).length) Slot.unset).toArray = ls at hl ⊢
  have hl : lv_has ls 3 [(0, .ref o), (1, .int x1), (2, .int x2)] := hl
  have hf : f_X7_bad S x1 x2 = (f_X7_bad_4 x1 x2 S) := rfl
  refine lv_iload_n hx hb dX7_bad_0 rfl (lv_at hl 1 rfl) ?_
  refine lv_if_lt (tgt := 12) hx hb dX7_bad_1 (by decide) (fun c_1 => ?_) (fun c_1 => ?_)
  · have hf : f_X7_bad S x1 x2 = (1 : Int32) := hf.trans (if_pos c_1)
    refine lv_iconst (v := 1) hx hb dX7_bad_12 (by decide) ?_
    exact W.iret hx hb hr (fun t ht hW => ⟨_, rfl, hf.symm, ht⟩) (fun q hq => absurd hq List.not_mem_nil) dX7_bad_13
  · have hf : f_X7_bad S x1 x2 = (f_X7_bad_3 x1 x2 S) := hf.trans (if_neg c_1)
    refine lv_iload_n hx hb dX7_bad_4 rfl (lv_at hl 1 rfl) ?_
    refine lv_aload_n hx hb dX7_bad_5 rfl (lv_at hl 0 rfl) ?_
    refine va_get (D := (dC, dI)) (ci := 5) (v := .int (nI (mn S))) (C := RX7) (T := TX7) (N := 18) hx hb hts zin_X7 hown hK hP 0 rfl rfl 16 (by decide) (hts _ (zin__r4 (.fieldLink RX7 79 "ReckonBenchModel" "rows" "I") (List.mem_of_getElem? (i := 12) rfl))) (fun _ h9 => h9) rfl dX7_bad_6 ?_
    refine lv_icmp_lt (tgt := 14) hx hb dX7_bad_9 (by decide) (fun c_9 => ?_) (fun c_9 => ?_)
    · have hf : f_X7_bad S x1 x2 = (f_X7_bad_2 x1 x2 S) := hf.trans (if_pos c_9)
      refine lv_iload_n hx hb dX7_bad_14 rfl (lv_at hl 2 rfl) ?_
      refine lv_if_lt (tgt := 27) hx hb dX7_bad_15 (by decide) (fun c_15 => ?_) (fun c_15 => ?_)
      · have hf : f_X7_bad S x1 x2 = (2 : Int32) := hf.trans (if_pos c_15)
        refine lv_iconst (v := 2) hx hb dX7_bad_27 (by decide) ?_
        refine lv_goto (tgt := 32) hx hb dX7_bad_28 (by decide) ?_
        exact W.iret hx hb hr (fun t ht hW => ⟨_, rfl, hf.symm, ht⟩) (fun q hq => absurd hq List.not_mem_nil) dX7_bad_32
      · have hf : f_X7_bad S x1 x2 = (f_X7_bad_1 x1 x2 S) := hf.trans (if_neg c_15)
        refine lv_iload_n hx hb dX7_bad_18 rfl (lv_at hl 2 rfl) ?_
        refine lv_aload_n hx hb dX7_bad_19 rfl (lv_at hl 0 rfl) ?_
        refine lv_iload_n hx hb dX7_bad_20 rfl (lv_at hl 1 rfl) ?_
        refine vp_callSi (va_Run.run (va_runV (As := [.int x1]) (rest := [.int x2]) ⟨hx, hb, hml, hown, hts⟩ (c_X7_size l dC dI o r cI cJ S x1 (mRow.in1 hI (row_of hI c_1 c_9)) (mRow.in0 hI (row_of hI c_1 c_9))) (cwV 1 hts (gV iX7_size (zin__r6 (.methodLink RX7 82 yX7_size) (List.mem_of_getElem? (i := 19) rfl))) rfl rfl rfl (by decide +kernel) ⟨Nat.le_of_ble_eq_true rfl, Nat.le_of_ble_eq_true rfl⟩) ⟨fun a U g mk q => ⟨q.1, mW_bl q.2⟩, (mW_rv hw), fun U hU hW => ⟨rfl, mW_mv hw hU hW⟩⟩ rfl rfl hl.1 rfl (lv_room (Nat.le_of_ble_eq_true rfl)) dX7_bad_21 ⟨Nat.zero_le _, Nat.zero_le _⟩)) (fun r_21 hr_21 => ?_)
        subst hr_21
        refine lv_icmp_lt (tgt := 31) hx hb dX7_bad_24 (by decide) (fun c_24 => ?_) (fun c_24 => ?_)
        · have hf : f_X7_bad S x1 x2 = (0 : Int32) := hf.trans (if_pos c_24)
          refine lv_iconst (v := 0) hx hb dX7_bad_31 (by decide) ?_
          exact W.iret hx hb hr (fun t ht hW => ⟨_, rfl, hf.symm, ht⟩) (fun q hq => absurd hq List.not_mem_nil) dX7_bad_32
        · have hf : f_X7_bad S x1 x2 = (2 : Int32) := hf.trans (if_neg c_24)
          refine lv_iconst (v := 2) hx hb dX7_bad_27 (by decide) ?_
          refine lv_goto (tgt := 32) hx hb dX7_bad_28 (by decide) ?_
          exact W.iret hx hb hr (fun t ht hW => ⟨_, rfl, hf.symm, ht⟩) (fun q hq => absurd hq List.not_mem_nil) dX7_bad_32
    · have hf : f_X7_bad S x1 x2 = (1 : Int32) := hf.trans (if_neg c_9)
      refine lv_iconst (v := 1) hx hb dX7_bad_12 (by decide) ?_
      exact W.iret hx hb hr (fun t ht hW => ⟨_, rfl, hf.symm, ht⟩) (fun q hq => absurd hq List.not_mem_nil) dX7_bad_13
def f_X7_outside_1 (x1 : Int32) (x2 : Int32) (S : MSt) : Int32 := if x2 < (f_X7_size S x1) then (0 : Int32) else (1 : Int32)
def f_X7_outside_2 (x1 : Int32) (x2 : Int32) (S : MSt) : Int32 := if x2 < 0 then (1 : Int32) else (f_X7_outside_1 x1 x2 S)
def f_X7_outside (S : MSt) (x1 : Int32) (x2 : Int32) : Int32 := (f_X7_outside_2 x1 x2 S)
def zX7_outside : List Cond := .code yX7_outside cX7_outside 3 (some .boolean) :: zall
theorem iX7_outside : MWv RX7 yX7_outside (.code yX7_outside cX7_outside 3 (some .boolean)) := ⟨(zin__r14 (.instanceMethod yX7_outside) (List.mem_of_getElem? (i := 8) rfl)), (zin__r14 (.selects RX7 yX7_outside yX7_outside) (List.mem_of_getElem? (i := 9) rfl)), (zin__r1 (.initialized RX7) (List.mem_of_getElem? (i := 5) rfl)), (zin__r14 (.code yX7_outside cX7_outside 3 (some .boolean)) (List.mem_of_getElem? (i := 10) rfl))⟩
set_option maxHeartbeats 4000000 in
set_option maxRecDepth 100000 in
theorem c_X7_outside (l : Launch) (dC : Nat → ClassId) (dI : Nat → Nat → Nat) (o : Nat) (r : Nat → Nat) (cI cJ : ClassId) (S : MSt) (x1 : Int32) (x2 : Int32) (hI : mInv S) (hR : mRow S x1) : Met l yX7_outside zX7_outside ({ frames := 1, cells := 0, slots := 0, locals := 21 }) (va_Pc [.ref o, .int x1, .int x2] (fun U => mW dC dI o r cI cJ S U)) (vp_Si (fun r => r = f_X7_outside S x1 x2)) 0 0 (fun _ => False) := by
  refine Met.ofW (cc := cX7_outside) (maxL := 3) (ret := (some .boolean)) (by decide) rfl ?_
  intro p e s m args below meth c s₁ B hml hv
  obtain ⟨rfl, hw⟩ := hv
  have hx := B.exec
  have hb := B.bytes
  have hr := B.returns
  have hts : ∀ w ∈ zall, w.before _ s = true := fun w h => atoms_spec (ws := zX7_outside) B.pre w (List.mem_cons_of_mem _ h)
  have hown : s.vm.findClass RX7 = some m.cls := findClass_of_methodNamed B.named
  have hlocks := B.notSynchronized
  obtain ⟨hP, hK⟩ := id hw
  have hm := mA_of hts hw
  have hl := lv_entry ([.ref o, .int x1, .int x2]) (n := 3) (Nat.le_of_ble_eq_true rfl)
  rw [lg_entry_eq]
  generalize (lg_sl ([.ref o, .int x1, .int x2]) ++ List.replicate (3 - (lg_sl ([.ref o, .int x1, .int x2])).length) Slot.unset).toArray = ls at hl ⊢
  have hl : lv_has ls 3 [(0, .ref o), (1, .int x1), (2, .int x2)] := hl
  have hf : f_X7_outside S x1 x2 = (f_X7_outside_2 x1 x2 S) := rfl
  refine lv_iload_n hx hb dX7_outside_0 rfl (lv_at hl 2 rfl) ?_
  refine lv_if_lt (tgt := 13) hx hb dX7_outside_1 (by decide) (fun c_1 => ?_) (fun c_1 => ?_)
  · have hf : f_X7_outside S x1 x2 = (1 : Int32) := hf.trans (if_pos c_1)
    refine lv_iconst (v := 1) hx hb dX7_outside_13 (by decide) ?_
    refine lv_goto (tgt := 18) hx hb dX7_outside_14 (by decide) ?_
    exact W.zret hx hb hr rfl (fun t ht hW => ⟨_, rfl, hf.symm, ht⟩) (fun q hq => absurd hq List.not_mem_nil) dX7_outside_18
  · have hf : f_X7_outside S x1 x2 = (f_X7_outside_1 x1 x2 S) := hf.trans (if_neg c_1)
    refine lv_iload_n hx hb dX7_outside_4 rfl (lv_at hl 2 rfl) ?_
    refine lv_aload_n hx hb dX7_outside_5 rfl (lv_at hl 0 rfl) ?_
    refine lv_iload_n hx hb dX7_outside_6 rfl (lv_at hl 1 rfl) ?_
    refine vp_callSi (va_Run.run (va_runV (As := [.int x1]) (rest := [.int x2]) ⟨hx, hb, hml, hown, hts⟩ (c_X7_size l dC dI o r cI cJ S x1 (mRow.in1 hI hR) (mRow.in0 hI hR)) (cwV 1 hts (gV iX7_size (zin__r6 (.methodLink RX7 82 yX7_size) (List.mem_of_getElem? (i := 19) rfl))) rfl rfl rfl (by decide +kernel) ⟨Nat.le_of_ble_eq_true rfl, Nat.le_of_ble_eq_true rfl⟩) ⟨fun a U g mk q => ⟨q.1, mW_bl q.2⟩, (mW_rv hw), fun U hU hW => ⟨rfl, mW_mv hw hU hW⟩⟩ rfl rfl hl.1 rfl (lv_room (Nat.le_of_ble_eq_true rfl)) dX7_outside_7 ⟨Nat.zero_le _, Nat.zero_le _⟩)) (fun r_7 hr_7 => ?_)
    subst hr_7
    refine lv_icmp_lt (tgt := 17) hx hb dX7_outside_10 (by decide) (fun c_10 => ?_) (fun c_10 => ?_)
    · have hf : f_X7_outside S x1 x2 = (0 : Int32) := hf.trans (if_pos c_10)
      refine lv_iconst (v := 0) hx hb dX7_outside_17 (by decide) ?_
      exact W.zret hx hb hr rfl (fun t ht hW => ⟨_, rfl, hf.symm, ht⟩) (fun q hq => absurd hq List.not_mem_nil) dX7_outside_18
    · have hf : f_X7_outside S x1 x2 = (1 : Int32) := hf.trans (if_neg c_10)
      refine lv_iconst (v := 1) hx hb dX7_outside_13 (by decide) ?_
      refine lv_goto (tgt := 18) hx hb dX7_outside_14 (by decide) ?_
      exact W.zret hx hb hr rfl (fun t ht hW => ⟨_, rfl, hf.symm, ht⟩) (fun q hq => absurd hq List.not_mem_nil) dX7_outside_18
def f_X7_at (S : MSt) (x1 : Int32) (x2 : Int32) : Int64 := (mb S ((nI (mf S x1.toNatClampNeg)) + x2).toNatClampNeg)
def zX7_at : List Cond := .code yX7_at cX7_at 3 (some .long) :: zall
theorem iX7_at : MWv RX7 yX7_at (.code yX7_at cX7_at 3 (some .long)) := ⟨(zin__r11 (.instanceMethod yX7_at) (List.mem_of_getElem? (i := 3) rfl)), (zin__r11 (.selects RX7 yX7_at yX7_at) (List.mem_of_getElem? (i := 4) rfl)), (zin__r1 (.initialized RX7) (List.mem_of_getElem? (i := 5) rfl)), (zin__r11 (.code yX7_at cX7_at 3 (some .long)) (List.mem_of_getElem? (i := 5) rfl))⟩
set_option maxHeartbeats 4000000 in
set_option maxRecDepth 100000 in
theorem c_X7_at (l : Launch) (dC : Nat → ClassId) (dI : Nat → Nat → Nat) (o : Nat) (r : Nat → Nat) (cI cJ : ClassId) (S : MSt) (x1 : Int32) (x2 : Int32) (h1 : vp_in x1 65) (h2 : vp_in (nI (mf S x1.toNatClampNeg) + x2) 4000) : Met l yX7_at zX7_at ({ frames := 0, cells := 0, slots := 0, locals := 0 }) (va_Pc [.ref o, .int x1, .int x2] (fun U => mW dC dI o r cI cJ S U)) (vp_Sl (fun r => r = f_X7_at S x1 x2)) 0 0 (fun _ => False) := by
  refine Met.ofW (cc := cX7_at) (maxL := 3) (ret := (some .long)) (by decide) rfl ?_
  intro p e s m args below meth c s₁ B hml hv
  obtain ⟨rfl, hw⟩ := hv
  have hx := B.exec
  have hb := B.bytes
  have hr := B.returns
  have hts : ∀ w ∈ zall, w.before _ s = true := fun w h => atoms_spec (ws := zX7_at) B.pre w (List.mem_cons_of_mem _ h)
  have hown : s.vm.findClass RX7 = some m.cls := findClass_of_methodNamed B.named
  have hlocks := B.notSynchronized
  obtain ⟨hP, hK⟩ := id hw
  have hm := mA_of hts hw
  have hl := lv_entry ([.ref o, .int x1, .int x2]) (n := 3) (Nat.le_of_ble_eq_true rfl)
  rw [lg_entry_eq]
  generalize (lg_sl ([.ref o, .int x1, .int x2]) ++ List.replicate (3 - (lg_sl ([.ref o, .int x1, .int x2])).length) Slot.unset).toArray = ls at hl ⊢
  have hl : lv_has ls 3 [(0, .ref o), (1, .int x1), (2, .int x2)] := hl
  have hf : f_X7_at S x1 x2 = (mb S ((nI (mf S x1.toNatClampNeg)) + x2).toNatClampNeg) := rfl
  refine lv_aload_n hx hb dX7_at_0 rfl (lv_at hl 0 rfl) ?_
  refine va_get (D := (dC, dI)) (ci := 5) (v := .ref (r 9)) (C := RX7) (T := TX7) (N := 18) hx hb hts zin_X7 hown hK hP 0 rfl rfl 9 (by decide) (hts _ (zin__r3 (.fieldLink RX7 54 "ReckonBenchModel" "bits" "[J") (List.mem_of_getElem? (i := 3) rfl))) (fun _ h9 => h9) rfl dX7_at_1 ?_
  refine lv_aload_n hx hb dX7_at_4 rfl (lv_at hl 0 rfl) ?_
  refine va_get (D := (dC, dI)) (ci := 5) (v := .ref (r 7)) (C := RX7) (T := TX7) (N := 18) hx hb hts zin_X7 hown hK hP 0 rfl rfl 7 (by decide) (hts _ (zin__r3 (.fieldLink RX7 48 "ReckonBenchModel" "first" "[I") (List.mem_of_getElem? (i := 1) rfl))) (fun _ h9 => h9) rfl dX7_at_5 ?_
  refine lv_iload_n hx hb dX7_at_8 rfl (lv_at hl 1 rfl) ?_
  refine va_iald (f := fun j => nI (mf S j)) hx hb hK hP 8 0 rfl rfl h1 dX7_at_9 ?_
  refine lv_iload_n hx hb dX7_at_10 rfl (lv_at hl 2 rfl) ?_
  refine lv_iadd hx hb dX7_at_11 ?_
  refine va_lald (f := mb S) hx hb hK hP 10 1 rfl rfl h2 dX7_at_12 ?_
  exact W.lret hx hb hr (fun t ht hW => ⟨_, rfl, hf.symm, ht⟩) (fun q hq => absurd hq List.not_mem_nil) dX7_at_13
def f_X7_noPair_1 (x1 : Int32) (x2 : Int32) (S : MSt) : Int32 := if x2 < ((f_X7_size S x1) / (2 : Int32)) then (0 : Int32) else (1 : Int32)
def f_X7_noPair_2 (x1 : Int32) (x2 : Int32) (S : MSt) : Int32 := if x2 < 0 then (1 : Int32) else (f_X7_noPair_1 x1 x2 S)
def f_X7_noPair (S : MSt) (x1 : Int32) (x2 : Int32) : Int32 := (f_X7_noPair_2 x1 x2 S)
def zX7_noPair : List Cond := .code yX7_noPair cX7_noPair 3 (some .boolean) :: zall
theorem iX7_noPair : MWv RX7 yX7_noPair (.code yX7_noPair cX7_noPair 3 (some .boolean)) := ⟨(zin__r30 (.instanceMethod yX7_noPair) (List.mem_of_getElem? (i := 0) rfl)), (zin__r30 (.selects RX7 yX7_noPair yX7_noPair) (List.mem_of_getElem? (i := 1) rfl)), (zin__r1 (.initialized RX7) (List.mem_of_getElem? (i := 5) rfl)), (zin__r30 (.code yX7_noPair cX7_noPair 3 (some .boolean)) (List.mem_of_getElem? (i := 2) rfl))⟩
set_option maxHeartbeats 4000000 in
set_option maxRecDepth 100000 in
theorem c_X7_noPair (l : Launch) (dC : Nat → ClassId) (dI : Nat → Nat → Nat) (o : Nat) (r : Nat → Nat) (cI cJ : ClassId) (S : MSt) (x1 : Int32) (x2 : Int32) (hI : mInv S) (hR : mRow S x1) : Met l yX7_noPair zX7_noPair ({ frames := 1, cells := 0, slots := 0, locals := 21 }) (va_Pc [.ref o, .int x1, .int x2] (fun U => mW dC dI o r cI cJ S U)) (vp_Si (fun r => r = f_X7_noPair S x1 x2)) 0 0 (fun _ => False) := by
  refine Met.ofW (cc := cX7_noPair) (maxL := 3) (ret := (some .boolean)) (by decide) rfl ?_
  intro p e s m args below meth c s₁ B hml hv
  obtain ⟨rfl, hw⟩ := hv
  have hx := B.exec
  have hb := B.bytes
  have hr := B.returns
  have hts : ∀ w ∈ zall, w.before _ s = true := fun w h => atoms_spec (ws := zX7_noPair) B.pre w (List.mem_cons_of_mem _ h)
  have hown : s.vm.findClass RX7 = some m.cls := findClass_of_methodNamed B.named
  have hlocks := B.notSynchronized
  obtain ⟨hP, hK⟩ := id hw
  have hm := mA_of hts hw
  have hl := lv_entry ([.ref o, .int x1, .int x2]) (n := 3) (Nat.le_of_ble_eq_true rfl)
  rw [lg_entry_eq]
  generalize (lg_sl ([.ref o, .int x1, .int x2]) ++ List.replicate (3 - (lg_sl ([.ref o, .int x1, .int x2])).length) Slot.unset).toArray = ls at hl ⊢
  have hl : lv_has ls 3 [(0, .ref o), (1, .int x1), (2, .int x2)] := hl
  have hf : f_X7_noPair S x1 x2 = (f_X7_noPair_2 x1 x2 S) := rfl
  refine lv_iload_n hx hb dX7_noPair_0 rfl (lv_at hl 2 rfl) ?_
  refine lv_if_lt (tgt := 15) hx hb dX7_noPair_1 (by decide) (fun c_1 => ?_) (fun c_1 => ?_)
  · have hf : f_X7_noPair S x1 x2 = (1 : Int32) := hf.trans (if_pos c_1)
    refine lv_iconst (v := 1) hx hb dX7_noPair_15 (by decide) ?_
    refine lv_goto (tgt := 20) hx hb dX7_noPair_16 (by decide) ?_
    exact W.zret hx hb hr rfl (fun t ht hW => ⟨_, rfl, hf.symm, ht⟩) (fun q hq => absurd hq List.not_mem_nil) dX7_noPair_20
  · have hf : f_X7_noPair S x1 x2 = (f_X7_noPair_1 x1 x2 S) := hf.trans (if_neg c_1)
    refine lv_iload_n hx hb dX7_noPair_4 rfl (lv_at hl 2 rfl) ?_
    refine lv_aload_n hx hb dX7_noPair_5 rfl (lv_at hl 0 rfl) ?_
    refine lv_iload_n hx hb dX7_noPair_6 rfl (lv_at hl 1 rfl) ?_
    refine vp_callSi (va_Run.run (va_runV (As := [.int x1]) (rest := [.int x2]) ⟨hx, hb, hml, hown, hts⟩ (c_X7_size l dC dI o r cI cJ S x1 (mRow.in1 hI hR) (mRow.in0 hI hR)) (cwV 1 hts (gV iX7_size (zin__r6 (.methodLink RX7 82 yX7_size) (List.mem_of_getElem? (i := 19) rfl))) rfl rfl rfl (by decide +kernel) ⟨Nat.le_of_ble_eq_true rfl, Nat.le_of_ble_eq_true rfl⟩) ⟨fun a U g mk q => ⟨q.1, mW_bl q.2⟩, (mW_rv hw), fun U hU hW => ⟨rfl, mW_mv hw hU hW⟩⟩ rfl rfl hl.1 rfl (lv_room (Nat.le_of_ble_eq_true rfl)) dX7_noPair_7 ⟨Nat.zero_le _, Nat.zero_le _⟩)) (fun r_7 hr_7 => ?_)
    subst hr_7
    refine lv_iconst (v := 2) hx hb dX7_noPair_10 (by decide) ?_
    refine lv_idiv hx hb dX7_noPair_11 (by decide) ?_
    refine lv_icmp_lt (tgt := 19) hx hb dX7_noPair_12 (by decide) (fun c_12 => ?_) (fun c_12 => ?_)
    · have hf : f_X7_noPair S x1 x2 = (0 : Int32) := hf.trans (if_pos c_12)
      refine lv_iconst (v := 0) hx hb dX7_noPair_19 (by decide) ?_
      exact W.zret hx hb hr rfl (fun t ht hW => ⟨_, rfl, hf.symm, ht⟩) (fun q hq => absurd hq List.not_mem_nil) dX7_noPair_20
    · have hf : f_X7_noPair S x1 x2 = (1 : Int32) := hf.trans (if_neg c_12)
      refine lv_iconst (v := 1) hx hb dX7_noPair_15 (by decide) ?_
      refine lv_goto (tgt := 20) hx hb dX7_noPair_16 (by decide) ?_
      exact W.zret hx hb hr rfl (fun t ht hW => ⟨_, rfl, hf.symm, ht⟩) (fun q hq => absurd hq List.not_mem_nil) dX7_noPair_20
def f_X7_isInterval_1 (x1 : Int32) (S : MSt) (v4_1 : Int64) (v6_2 : Int64) : Int32 := if (f_X7_rank (mk S x1.toNatClampNeg) v6_2) < (f_X7_rank (mk S x1.toNatClampNeg) v4_1) then (0 : Int32) else (1 : Int32)
def f_X7_isInterval_2 (x1 : Int32) (S : MSt) (v4_1 : Int64) (v6_2 : Int64) : Int32 := if (f_X7_none (mk S x1.toNatClampNeg) v6_2) = 0 then (f_X7_isInterval_1 x1 S v4_1 v6_2) else (0 : Int32)
def f_X7_isInterval_3 (x1 : Int32) (S : MSt) (v4_1 : Int64) (v6_2 : Int64) : Int32 := if (f_X7_none (mk S x1.toNatClampNeg) v4_1) = 0 then (f_X7_isInterval_2 x1 S v4_1 v6_2) else (0 : Int32)
def f_X7_isInterval (S : MSt) (x1 : Int32) (x2 : Int32) : Int32 := (f_X7_isInterval_3 x1 S (f_X7_at S x1 ((2 : Int32) * x2)) (f_X7_at S x1 (((2 : Int32) * x2) + (1 : Int32))))
def zX7_isInterval : List Cond := .code yX7_isInterval cX7_isInterval 8 (some .boolean) :: zall
theorem iX7_isInterval : MWv RX7 yX7_isInterval (.code yX7_isInterval cX7_isInterval 8 (some .boolean)) := ⟨(zin__r30 (.instanceMethod yX7_isInterval) (List.mem_of_getElem? (i := 4) rfl)), (zin__r30 (.selects RX7 yX7_isInterval yX7_isInterval) (List.mem_of_getElem? (i := 5) rfl)), (zin__r1 (.initialized RX7) (List.mem_of_getElem? (i := 5) rfl)), (zin__r30 (.code yX7_isInterval cX7_isInterval 8 (some .boolean)) (List.mem_of_getElem? (i := 6) rfl))⟩
set_option maxHeartbeats 4000000 in
set_option maxRecDepth 100000 in
theorem c_X7_isInterval (l : Launch) (dC : Nat → ClassId) (dI : Nat → Nat → Nat) (o : Nat) (r : Nat → Nat) (cI cJ : ClassId) (S : MSt) (x1 : Int32) (x2 : Int32) (hI : mInv S) (hQ : mPair S x1 x2) : Met l yX7_isInterval zX7_isInterval ({ frames := 2, cells := 0, slots := 0, locals := 46 }) (va_Pc [.ref o, .int x1, .int x2] (fun U => mW dC dI o r cI cJ S U)) (vp_Si (fun r => r = f_X7_isInterval S x1 x2)) 0 0 (fun _ => False) := by
  refine Met.ofW (cc := cX7_isInterval) (maxL := 8) (ret := (some .boolean)) (by decide) rfl ?_
  intro p e s m args below meth c s₁ B hml hv
  obtain ⟨rfl, hw⟩ := hv
  have hx := B.exec
  have hb := B.bytes
  have hr := B.returns
  have hts : ∀ w ∈ zall, w.before _ s = true := fun w h => atoms_spec (ws := zX7_isInterval) B.pre w (List.mem_cons_of_mem _ h)
  have hown : s.vm.findClass RX7 = some m.cls := findClass_of_methodNamed B.named
  have hlocks := B.notSynchronized
  obtain ⟨hP, hK⟩ := id hw
  have hm := mA_of hts hw
  have hl := lv_entry ([.ref o, .int x1, .int x2]) (n := 8) (Nat.le_of_ble_eq_true rfl)
  rw [lg_entry_eq]
  generalize (lg_sl ([.ref o, .int x1, .int x2]) ++ List.replicate (8 - (lg_sl ([.ref o, .int x1, .int x2])).length) Slot.unset).toArray = ls at hl ⊢
  have hl : lv_has ls 8 [(0, .ref o), (1, .int x1), (2, .int x2)] := hl
  have hf : f_X7_isInterval S x1 x2 = (f_X7_isInterval_3 x1 S (f_X7_at S x1 ((2 : Int32) * x2)) (f_X7_at S x1 (((2 : Int32) * x2) + (1 : Int32)))) := rfl
  refine lv_aload_n hx hb dX7_isInterval_0 rfl (lv_at hl 0 rfl) ?_
  refine va_get (D := (dC, dI)) (ci := 5) (v := .ref (r 8)) (C := RX7) (T := TX7) (N := 18) hx hb hts zin_X7 hown hK hP 0 rfl rfl 8 (by decide) (hts _ (zin__r3 (.fieldLink RX7 51 "ReckonBenchModel" "kinds" "[I") (List.mem_of_getElem? (i := 2) rfl))) (fun _ h9 => h9) rfl dX7_isInterval_1 ?_
  refine lv_iload_n hx hb dX7_isInterval_4 rfl (lv_at hl 1 rfl) ?_
  refine va_iald (f := fun j => nI (mk S j)) hx hb hK hP 9 0 rfl rfl (mRow.in2 hI (mPair.row hQ)) dX7_isInterval_5 ?_
  refine lv_istore_n (lv' := [(3, .int (nI (mk S x1.toNatClampNeg))), (0, .ref o), (1, .int x1), (2, .int x2)]) hx hb dX7_isInterval_6 rfl hl (by decide) rfl (fun ls hl => ?_)
  refine lv_aload_n hx hb dX7_isInterval_7 rfl (lv_at hl 1 rfl) ?_
  refine lv_iload_n hx hb dX7_isInterval_8 rfl (lv_at hl 2 rfl) ?_
  refine lv_iconst (v := 2) hx hb dX7_isInterval_9 (by decide) ?_
  refine lv_iload_n hx hb dX7_isInterval_10 rfl (lv_at hl 3 rfl) ?_
  refine lv_imul hx hb dX7_isInterval_11 ?_
  refine vp_callSl (va_Run.run (va_runV (As := [.int x1, .int ((2 : Int32) * x2)]) (rest := []) ⟨hx, hb, hml, hown, hts⟩ (c_X7_at l dC dI o r cI cJ S x1 ((2 : Int32) * x2) (mRow.in0 hI (mPl.row (mPair.lo hQ))) (mPl.at hI (mPair.lo hQ))) (cwV 2 hts (gV iX7_at (zin__r11 (.methodLink RX7 155 yX7_at) (List.mem_of_getElem? (i := 2) rfl))) rfl rfl rfl (by decide +kernel) ⟨Nat.le_of_ble_eq_true rfl, Nat.le_of_ble_eq_true rfl⟩) ⟨fun a U g mk q => ⟨q.1, mW_bl q.2⟩, (mW_rv hw), fun U hU hW => ⟨rfl, mW_mv hw hU hW⟩⟩ rfl rfl hl.1 rfl (lv_room (Nat.le_of_ble_eq_true rfl)) dX7_isInterval_12 ⟨Nat.zero_le _, Nat.zero_le _⟩)) (fun r_12 hr_12 => ?_)
  subst hr_12
  refine lv_topl (fun v4_1 e_v4_1 => ?_)
  have hf : f_X7_isInterval S x1 x2 = (f_X7_isInterval_3 x1 S v4_1 (f_X7_at S x1 (((2 : Int32) * x2) + (1 : Int32)))) := hf.trans (congrArg (fun z => (f_X7_isInterval_3 x1 S z (f_X7_at S x1 (((2 : Int32) * x2) + (1 : Int32))))) e_v4_1.symm)
  refine lv_lstore (lv' := [(4, .long v4_1), (3, .int (nI (mk S x1.toNatClampNeg))), (0, .ref o), (1, .int x1), (2, .int x2)]) hx hb dX7_isInterval_15 hl (by decide) rfl (fun ls hl => ?_)
  refine lv_aload_n hx hb dX7_isInterval_17 rfl (lv_at hl 2 rfl) ?_
  refine lv_iload_n hx hb dX7_isInterval_18 rfl (lv_at hl 3 rfl) ?_
  refine lv_iconst (v := 2) hx hb dX7_isInterval_19 (by decide) ?_
  refine lv_iload_n hx hb dX7_isInterval_20 rfl (lv_at hl 4 rfl) ?_
  refine lv_imul hx hb dX7_isInterval_21 ?_
  refine lv_iconst (v := 1) hx hb dX7_isInterval_22 (by decide) ?_
  refine lv_iadd hx hb dX7_isInterval_23 ?_
  refine vp_callSl (va_Run.run (va_runV (As := [.int x1, .int (((2 : Int32) * x2) + (1 : Int32))]) (rest := []) ⟨hx, hb, hml, hown, hts⟩ (c_X7_at l dC dI o r cI cJ S x1 (((2 : Int32) * x2) + (1 : Int32)) (mRow.in0 hI (mPl.row (mPair.hi hQ))) (mPl.at hI (mPair.hi hQ))) (cwV 2 hts (gV iX7_at (zin__r11 (.methodLink RX7 155 yX7_at) (List.mem_of_getElem? (i := 2) rfl))) rfl rfl rfl (by decide +kernel) ⟨Nat.le_of_ble_eq_true rfl, Nat.le_of_ble_eq_true rfl⟩) ⟨fun a U g mk q => ⟨q.1, mW_bl q.2⟩, (mW_rv hw), fun U hU hW => ⟨rfl, mW_mv hw hU hW⟩⟩ rfl rfl hl.1 rfl (lv_room (Nat.le_of_ble_eq_true rfl)) dX7_isInterval_24 ⟨Nat.zero_le _, Nat.zero_le _⟩)) (fun r_24 hr_24 => ?_)
  subst hr_24
  refine lv_topl (fun v6_2 e_v6_2 => ?_)
  have hf : f_X7_isInterval S x1 x2 = (f_X7_isInterval_3 x1 S v4_1 v6_2) := hf.trans (congrArg (fun z => (f_X7_isInterval_3 x1 S v4_1 z)) e_v6_2.symm)
  refine lv_lstore (lv' := [(6, .long v6_2), (4, .long v4_1), (3, .int (nI (mk S x1.toNatClampNeg))), (0, .ref o), (1, .int x1), (2, .int x2)]) hx hb dX7_isInterval_27 hl (by decide) rfl (fun ls hl => ?_)
  refine lv_aload_n hx hb dX7_isInterval_29 rfl (lv_at hl 3 rfl) ?_
  refine lv_iload_n hx hb dX7_isInterval_30 rfl (lv_at hl 2 rfl) ?_
  refine lv_lload hx hb dX7_isInterval_31 (lv_at hl 1 rfl) ?_
  refine vp_callSi (va_Run.run (va_runV (As := [.int (nI (mk S x1.toNatClampNeg)), .long v4_1]) (rest := []) ⟨hx, hb, hml, hown, hts⟩ (c_X7_none l o r (mk S x1.toNatClampNeg) (mRow.k hI (mPair.row hQ)) v4_1) (cwV 2 hts (gV iX7_none (zin__r7 (.methodLink RX7 98 yX7_none) (List.mem_of_getElem? (i := 17) rfl))) rfl rfl rfl (by decide +kernel) ⟨Nat.le_of_ble_eq_true rfl, Nat.le_of_ble_eq_true rfl⟩) ⟨fun a U g mk q => ⟨q.1, mU_bl q.2⟩, (mW_rv hw), fun U hU hW => ⟨rfl, mU_mvH hm hU hW⟩⟩ rfl rfl hl.1 rfl (lv_room (Nat.le_of_ble_eq_true rfl)) dX7_isInterval_33 ⟨Nat.zero_le _, Nat.zero_le _⟩)) (fun r_33 hr_33 => ?_)
  subst hr_33
  refine lv_if_ne (tgt := 71) hx hb dX7_isInterval_36 (by decide) (fun c_36 => ?_) (fun c_36 => ?_)
  · have hf : f_X7_isInterval S x1 x2 = (0 : Int32) := hf.trans (if_neg c_36)
    refine lv_iconst (v := 0) hx hb dX7_isInterval_71 (by decide) ?_
    exact W.zret hx hb hr rfl (fun t ht hW => ⟨_, rfl, hf.symm, ht⟩) (fun q hq => absurd hq List.not_mem_nil) dX7_isInterval_72
  · have hf : f_X7_isInterval S x1 x2 = (f_X7_isInterval_2 x1 S v4_1 v6_2) := hf.trans (if_pos c_36)
    refine lv_aload_n hx hb dX7_isInterval_39 rfl (lv_at hl 3 rfl) ?_
    refine lv_iload_n hx hb dX7_isInterval_40 rfl (lv_at hl 2 rfl) ?_
    refine lv_lload hx hb dX7_isInterval_41 (lv_at hl 0 rfl) ?_
    refine vp_callSi (va_Run.run (va_runV (As := [.int (nI (mk S x1.toNatClampNeg)), .long v6_2]) (rest := []) ⟨hx, hb, hml, hown, hts⟩ (c_X7_none l o r (mk S x1.toNatClampNeg) (mRow.k hI (mPair.row hQ)) v6_2) (cwV 2 hts (gV iX7_none (zin__r7 (.methodLink RX7 98 yX7_none) (List.mem_of_getElem? (i := 17) rfl))) rfl rfl rfl (by decide +kernel) ⟨Nat.le_of_ble_eq_true rfl, Nat.le_of_ble_eq_true rfl⟩) ⟨fun a U g mk q => ⟨q.1, mU_bl q.2⟩, (mW_rv hw), fun U hU hW => ⟨rfl, mU_mvH hm hU hW⟩⟩ rfl rfl hl.1 rfl (lv_room (Nat.le_of_ble_eq_true rfl)) dX7_isInterval_43 ⟨Nat.zero_le _, Nat.zero_le _⟩)) (fun r_43 hr_43 => ?_)
    subst hr_43
    refine lv_if_ne (tgt := 71) hx hb dX7_isInterval_46 (by decide) (fun c_46 => ?_) (fun c_46 => ?_)
    · have hf : f_X7_isInterval S x1 x2 = (0 : Int32) := hf.trans (if_neg c_46)
      refine lv_iconst (v := 0) hx hb dX7_isInterval_71 (by decide) ?_
      exact W.zret hx hb hr rfl (fun t ht hW => ⟨_, rfl, hf.symm, ht⟩) (fun q hq => absurd hq List.not_mem_nil) dX7_isInterval_72
    · have hf : f_X7_isInterval S x1 x2 = (f_X7_isInterval_1 x1 S v4_1 v6_2) := hf.trans (if_pos c_46)
      refine lv_aload_n hx hb dX7_isInterval_49 rfl (lv_at hl 3 rfl) ?_
      refine lv_iload_n hx hb dX7_isInterval_50 rfl (lv_at hl 2 rfl) ?_
      refine lv_lload hx hb dX7_isInterval_51 (lv_at hl 1 rfl) ?_
      refine vp_callSl (va_Run.run (va_runV (As := [.int (nI (mk S x1.toNatClampNeg)), .long v4_1]) (rest := []) ⟨hx, hb, hml, hown, hts⟩ (c_X7_rank l o r (mk S x1.toNatClampNeg) (mRow.k hI (mPair.row hQ)) v4_1) (cwV 2 hts (gV iX7_rank (zin__r14 (.methodLink RX7 133 yX7_rank) (List.mem_of_getElem? (i := 11) rfl))) rfl rfl rfl (by decide +kernel) ⟨Nat.le_of_ble_eq_true rfl, Nat.le_of_ble_eq_true rfl⟩) ⟨fun a U g mk q => ⟨q.1, mU_bl q.2⟩, (mW_rv hw), fun U hU hW => ⟨rfl, mU_mvH hm hU hW⟩⟩ rfl rfl hl.1 rfl (lv_room (Nat.le_of_ble_eq_true rfl)) dX7_isInterval_53 ⟨Nat.zero_le _, Nat.zero_le _⟩)) (fun r_53 hr_53 => ?_)
      subst hr_53
      refine lv_aload_n hx hb dX7_isInterval_56 rfl (lv_at hl 3 rfl) ?_
      refine lv_iload_n hx hb dX7_isInterval_57 rfl (lv_at hl 2 rfl) ?_
      refine lv_lload hx hb dX7_isInterval_58 (lv_at hl 0 rfl) ?_
      refine vp_callSl (va_Run.run (va_runV (As := [.int (nI (mk S x1.toNatClampNeg)), .long v6_2]) (rest := [.long (f_X7_rank (mk S x1.toNatClampNeg) v4_1)]) ⟨hx, hb, hml, hown, hts⟩ (c_X7_rank l o r (mk S x1.toNatClampNeg) (mRow.k hI (mPair.row hQ)) v6_2) (cwV 2 hts (gV iX7_rank (zin__r14 (.methodLink RX7 133 yX7_rank) (List.mem_of_getElem? (i := 11) rfl))) rfl rfl rfl (by decide +kernel) ⟨Nat.le_of_ble_eq_true rfl, Nat.le_of_ble_eq_true rfl⟩) ⟨fun a U g mk q => ⟨q.1, mU_bl q.2⟩, (mW_rv hw), fun U hU hW => ⟨rfl, mU_mvH hm hU hW⟩⟩ rfl rfl hl.1 rfl (lv_room (Nat.le_of_ble_eq_true rfl)) dX7_isInterval_60 ⟨Nat.zero_le _, Nat.zero_le _⟩)) (fun r_60 hr_60 => ?_)
      subst hr_60
      refine W.lcmp hx hb dX7_isInterval_63 ?_
      refine lv_if_gt (tgt := 71) hx hb dX7_isInterval_64 (by decide) (fun c_64 => ?_) (fun c_64 => ?_)
      · have c_64 : (f_X7_rank (mk S x1.toNatClampNeg) v6_2) < (f_X7_rank (mk S x1.toNatClampNeg) v4_1) := (lg_cmp_gt (f_X7_rank (mk S x1.toNatClampNeg) v4_1) (f_X7_rank (mk S x1.toNatClampNeg) v6_2)).mp c_64
        have hf : f_X7_isInterval S x1 x2 = (0 : Int32) := hf.trans (if_pos c_64)
        refine lv_iconst (v := 0) hx hb dX7_isInterval_71 (by decide) ?_
        exact W.zret hx hb hr rfl (fun t ht hW => ⟨_, rfl, hf.symm, ht⟩) (fun q hq => absurd hq List.not_mem_nil) dX7_isInterval_72
      · have c_64 : ¬ ((f_X7_rank (mk S x1.toNatClampNeg) v6_2) < (f_X7_rank (mk S x1.toNatClampNeg) v4_1)) := fun h9 => c_64 ((lg_cmp_gt (f_X7_rank (mk S x1.toNatClampNeg) v4_1) (f_X7_rank (mk S x1.toNatClampNeg) v6_2)).mpr h9)
        have hf : f_X7_isInterval S x1 x2 = (1 : Int32) := hf.trans (if_neg c_64)
        refine lv_iconst (v := 1) hx hb dX7_isInterval_67 (by decide) ?_
        refine lv_goto (tgt := 72) hx hb dX7_isInterval_68 (by decide) ?_
        exact W.zret hx hb hr rfl (fun t ht hW => ⟨_, rfl, hf.symm, ht⟩) (fun q hq => absurd hq List.not_mem_nil) dX7_isInterval_72
def f_X7_status (S : MSt) : Int32 := (ms S)
def zX7_status : List Cond := .code yX7_status cX7_status 1 (some .int) :: zall
theorem iX7_status : MWv RX7 yX7_status (.code yX7_status cX7_status 1 (some .int)) := ⟨(zin__r31 (.instanceMethod yX7_status) (List.mem_of_getElem? (i := 23) rfl)), (zin__r32 (.selects RX7 yX7_status yX7_status) (List.mem_of_getElem? (i := 0) rfl)), (zin__r1 (.initialized RX7) (List.mem_of_getElem? (i := 5) rfl)), (zin__r32 (.code yX7_status cX7_status 1 (some .int)) (List.mem_of_getElem? (i := 1) rfl))⟩
set_option maxHeartbeats 4000000 in
set_option maxRecDepth 100000 in
theorem c_X7_status (l : Launch) (dC : Nat → ClassId) (dI : Nat → Nat → Nat) (o : Nat) (r : Nat → Nat) (cI cJ : ClassId) (S : MSt) : Met l yX7_status zX7_status ({ frames := 0, cells := 0, slots := 0, locals := 0 }) (va_Pc [.ref o] (fun U => mW dC dI o r cI cJ S U)) (vp_Si (fun r => r = f_X7_status S)) 0 0 (fun _ => False) := by
  refine Met.ofW (cc := cX7_status) (maxL := 1) (ret := (some .int)) (by decide) rfl ?_
  intro p e s m args below meth c s₁ B hml hv
  obtain ⟨rfl, hw⟩ := hv
  have hx := B.exec
  have hb := B.bytes
  have hr := B.returns
  have hts : ∀ w ∈ zall, w.before _ s = true := fun w h => atoms_spec (ws := zX7_status) B.pre w (List.mem_cons_of_mem _ h)
  have hown : s.vm.findClass RX7 = some m.cls := findClass_of_methodNamed B.named
  have hlocks := B.notSynchronized
  obtain ⟨hP, hK⟩ := id hw
  have hm := mA_of hts hw
  have hl := lv_entry ([.ref o]) (n := 1) (Nat.le_of_ble_eq_true rfl)
  rw [lg_entry_eq]
  generalize (lg_sl ([.ref o]) ++ List.replicate (1 - (lg_sl ([.ref o])).length) Slot.unset).toArray = ls at hl ⊢
  have hl : lv_has ls 1 [(0, .ref o)] := hl
  have hf : f_X7_status S = (ms S) := rfl
  refine lv_aload_n hx hb dX7_status_0 rfl (lv_at hl 0 rfl) ?_
  refine va_get (D := (dC, dI)) (ci := 5) (v := .int (ms S)) (C := RX7) (T := TX7) (N := 18) hx hb hts zin_X7 hown hK hP 0 rfl rfl 17 (by decide) (hts _ (zin__r4 (.fieldLink RX7 75 "ReckonBenchModel" "status" "I") (List.mem_of_getElem? (i := 13) rfl))) (fun _ h9 => h9) rfl dX7_status_1 ?_
  exact W.iret hx hb hr (fun t ht hW => ⟨_, rfl, hf.symm, ht⟩) (fun q hq => absurd hq List.not_mem_nil) dX7_status_4
