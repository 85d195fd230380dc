def f_X6_refuse (S : CSt) (x1 : Int32) : Int32 × CSt := ((-9 : Int32), (cset_rs S x1))
def zX6_refuse : List Cond := .code yX6_refuse cX6_refuse 2 (some .int) :: zall
theorem iX6_refuse : MWv RX6 yX6_refuse (.code yX6_refuse cX6_refuse 2 (some .int)) := ⟨(zin__r2 (.instanceMethod yX6_refuse) (List.mem_of_getElem? (i := 15) rfl)), (zin__r2 (.selects RX6 yX6_refuse yX6_refuse) (List.mem_of_getElem? (i := 16) rfl)), (zin__r1 (.initialized RX6) (List.mem_of_getElem? (i := 2) rfl)), (zin__r2 (.code yX6_refuse cX6_refuse 2 (some .int)) (List.mem_of_getElem? (i := 17) rfl))⟩
set_option maxHeartbeats 4000000 in
set_option maxRecDepth 100000 in
theorem c_X6_refuse (l : Launch) (dC : Nat → ClassId) (dI : Nat → Nat → Nat) (ad : Nat → Nat) (o rw so ba ma : Nat) (cR cJ : ClassId) (sz : Nat) (S : CSt) (x1 : Int32) : Met l yX6_refuse zX6_refuse ({ frames := 0, cells := 0, slots := 0, locals := 0 }) (va_Pc [.ref o, .int x1] (fun U => cB dC dI ad o rw so ba ma cR cJ sz S U)) (va_Qi (fun r9 S9 => (r9, S9) = f_X6_refuse S x1) (cE dC dI ad o rw so ba ma cR cJ (va_A (cWs ad o rw so ba ma cR cJ S) sz)) (va_A (cWs ad o rw so ba ma cR cJ S) sz)) 0 0 (va_A (cWs ad o rw so ba ma cR cJ S) sz) := by
  refine Met.ofW (cc := cX6_refuse) (maxL := 2) (ret := (some .int)) (by decide) rfl ?_
  intro p e s m args below meth c s₁ B hml hv
  obtain ⟨rfl, hsz, hP, hK, hD0, hkA⟩ := hv
  have hx := B.exec
  have hb := B.bytes
  have hr := B.returns
  have hts : ∀ w ∈ zall, w.before _ s = true := fun w h => atoms_spec (ws := zX6_refuse) B.pre w (List.mem_cons_of_mem _ h)
  have hown : s.vm.findClass RX6 = some m.cls := findClass_of_methodNamed B.named
  have hlocks := B.notSynchronized
  subst hsz
  have hD := hD0.self (sz := s.heap.size)
  generalize hAe : va_A (cWs ad o rw so ba ma cR cJ S) s.heap.size = A at hD hkA ⊢
  have hA : ∀ q : Nat, s.heap.size ≤ q → A q := fun q h => by rw [← hAe]; exact Or.inr h
  have hS : va_S A s.heap s.heap [] := va_S.rf
  have hw : cH dC dI ad o rw so ba ma cR cJ S s s.heap := ⟨hP, hK⟩
  have hk := kA_at hkA hS
  have hl := lv_entry ([.ref o, .int x1]) (n := 2) (Nat.le_of_ble_eq_true rfl)
  rw [lg_entry_eq]
  generalize (lg_sl ([.ref o, .int x1]) ++ List.replicate (2 - (lg_sl ([.ref o, .int x1])).length) Slot.unset).toArray = ls at hl ⊢
  have hl : lv_has ls 2 [(0, .ref o), (1, .int x1)] := hl
  have hf : f_X6_refuse S x1 = ((-9 : Int32), (cset_rs S x1)) := rfl
  refine lv_aload_n hx hb dX6_refuse_0 rfl (lv_at hl 0 rfl) ?_
  refine lv_iload_n hx hb dX6_refuse_1 rfl (lv_at hl 1 rfl) ?_
  refine va_put (D := (dC, dI)) (ci := 4) (v := .int x1) (ty := .int) (C := RX6) (T := TX6) (N := 5) hx hb hts zin_X6 tyX6 tyX6_ok nmX6 hown hK hP hD hS 0 rfl rfl 4 (by decide) (hts _ (zin__r1 (.fieldLink RX6 29 "ReckonBench" "reason" "I") (List.mem_of_getElem? (i := 18) rfl))) (fun _ h9 => h9) rfl (by decide +kernel) rfl rfl (Nat.le_of_ble_eq_true rfl) dX6_refuse_2 (fun H locs hP hD hS => ?_)
  obtain ⟨S_1, e_S_1⟩ : ∃ z : CSt, z = (cset_rs S x1) := ⟨_, rfl⟩
  have hP : va_P (dC, dI) vwCl (cWs ad o rw so ba ma cR cJ S_1) H := by rw [e_S_1]; exact hP
  have hD : va_D A (cWs ad o rw so ba ma cR cJ S_1) := by rw [e_S_1]; exact hD
  have hw : cH dC dI ad o rw so ba ma cR cJ S_1 s H := ⟨hP, hK⟩
  have hk := kA_at hkA hS
  have hf : f_X6_refuse S x1 = ((-9 : Int32), S_1) := hf.trans (congrArg (fun z => ((-9 : Int32), z)) e_S_1.symm)
  refine lv_bipush (v := -9) hx hb dX6_refuse_5 (by decide) ?_
  exact W.iret hx hb hr (fun t ht hW => ⟨⟨_, S_1, rfl, hf.symm, by rw [ht]; exact hP, va_K.moved hW.alike hK, hD⟩, hS.F ht⟩) hS.2.2 dX6_refuse_7
def f_X6_refuseLong (S : CSt) (x1 : Int32) : Int64 × CSt := ((0 : Int64), (cset_rs S x1))
def zX6_refuseLong : List Cond := .code yX6_refuseLong cX6_refuseLong 2 (some .long) :: zall
theorem iX6_refuseLong : MWv RX6 yX6_refuseLong (.code yX6_refuseLong cX6_refuseLong 2 (some .long)) := ⟨(zin__r6 (.instanceMethod yX6_refuseLong) (List.mem_of_getElem? (i := 20) rfl)), (zin__r6 (.selects RX6 yX6_refuseLong yX6_refuseLong) (List.mem_of_getElem? (i := 21) rfl)), (zin__r1 (.initialized RX6) (List.mem_of_getElem? (i := 2) rfl)), (zin__r6 (.code yX6_refuseLong cX6_refuseLong 2 (some .long)) (List.mem_of_getElem? (i := 22) rfl))⟩
set_option maxHeartbeats 4000000 in
set_option maxRecDepth 100000 in
theorem c_X6_refuseLong (l : Launch) (dC : Nat → ClassId) (dI : Nat → Nat → Nat) (ad : Nat → Nat) (o rw so ba ma : Nat) (cR cJ : ClassId) (sz : Nat) (S : CSt) (x1 : Int32) : Met l yX6_refuseLong zX6_refuseLong ({ frames := 0, cells := 0, slots := 0, locals := 0 }) (va_Pc [.ref o, .int x1] (fun U => cB dC dI ad o rw so ba ma cR cJ sz S U)) (va_Ql (fun r9 S9 => (r9, S9) = f_X6_refuseLong S x1) (cE dC dI ad o rw so ba ma cR cJ (va_A (cWs ad o rw so ba ma cR cJ S) sz)) (va_A (cWs ad o rw so ba ma cR cJ S) sz)) 0 0 (va_A (cWs ad o rw so ba ma cR cJ S) sz) := by
  refine Met.ofW (cc := cX6_refuseLong) (maxL := 2) (ret := (some .long)) (by decide) rfl ?_
  intro p e s m args below meth c s₁ B hml hv
  obtain ⟨rfl, hsz, hP, hK, hD0, hkA⟩ := hv
  have hx := B.exec
  have hb := B.bytes
  have hr := B.returns
  have hts : ∀ w ∈ zall, w.before _ s = true := fun w h => atoms_spec (ws := zX6_refuseLong) B.pre w (List.mem_cons_of_mem _ h)
  have hown : s.vm.findClass RX6 = some m.cls := findClass_of_methodNamed B.named
  have hlocks := B.notSynchronized
  subst hsz
  have hD := hD0.self (sz := s.heap.size)
  generalize hAe : va_A (cWs ad o rw so ba ma cR cJ S) s.heap.size = A at hD hkA ⊢
  have hA : ∀ q : Nat, s.heap.size ≤ q → A q := fun q h => by rw [← hAe]; exact Or.inr h
  have hS : va_S A s.heap s.heap [] := va_S.rf
  have hw : cH dC dI ad o rw so ba ma cR cJ S s s.heap := ⟨hP, hK⟩
  have hk := kA_at hkA hS
  have hl := lv_entry ([.ref o, .int x1]) (n := 2) (Nat.le_of_ble_eq_true rfl)
  rw [lg_entry_eq]
  generalize (lg_sl ([.ref o, .int x1]) ++ List.replicate (2 - (lg_sl ([.ref o, .int x1])).length) Slot.unset).toArray = ls at hl ⊢
  have hl : lv_has ls 2 [(0, .ref o), (1, .int x1)] := hl
  have hf : f_X6_refuseLong S x1 = ((0 : Int64), (cset_rs S x1)) := rfl
  refine lv_aload_n hx hb dX6_refuseLong_0 rfl (lv_at hl 0 rfl) ?_
  refine lv_iload_n hx hb dX6_refuseLong_1 rfl (lv_at hl 1 rfl) ?_
  refine va_put (D := (dC, dI)) (ci := 4) (v := .int x1) (ty := .int) (C := RX6) (T := TX6) (N := 5) hx hb hts zin_X6 tyX6 tyX6_ok nmX6 hown hK hP hD hS 0 rfl rfl 4 (by decide) (hts _ (zin__r1 (.fieldLink RX6 29 "ReckonBench" "reason" "I") (List.mem_of_getElem? (i := 18) rfl))) (fun _ h9 => h9) rfl (by decide +kernel) rfl rfl (Nat.le_of_ble_eq_true rfl) dX6_refuseLong_2 (fun H locs hP hD hS => ?_)
  obtain ⟨S_1, e_S_1⟩ : ∃ z : CSt, z = (cset_rs S x1) := ⟨_, rfl⟩
  have hP : va_P (dC, dI) vwCl (cWs ad o rw so ba ma cR cJ S_1) H := by rw [e_S_1]; exact hP
  have hD : va_D A (cWs ad o rw so ba ma cR cJ S_1) := by rw [e_S_1]; exact hD
  have hw : cH dC dI ad o rw so ba ma cR cJ S_1 s H := ⟨hP, hK⟩
  have hk := kA_at hkA hS
  have hf : f_X6_refuseLong S x1 = ((0 : Int64), S_1) := hf.trans (congrArg (fun z => ((0 : Int64), z)) e_S_1.symm)
  refine lv_lconst (v := 0) hx hb dX6_refuseLong_5 (by decide) ?_
  exact W.lret hx hb hr (fun t ht hW => ⟨⟨_, S_1, rfl, hf.symm, by rw [ht]; exact hP, va_K.moved hW.alike hK, hD⟩, hS.F ht⟩) hS.2.2 dX6_refuseLong_6
def f_X6_answer (S : CSt) (x1 : Int32) : Int32 × CSt := (x1, (cset_rs S (0 : Int32)))
def zX6_answer : List Cond := .code yX6_answer cX6_answer 2 (some .int) :: zall
theorem iX6_answer : MWv RX6 yX6_answer (.code yX6_answer cX6_answer 2 (some .int)) := ⟨(zin__r3 (.instanceMethod yX6_answer) (List.mem_of_getElem? (i := 1) rfl)), (zin__r3 (.selects RX6 yX6_answer yX6_answer) (List.mem_of_getElem? (i := 2) rfl)), (zin__r1 (.initialized RX6) (List.mem_of_getElem? (i := 2) rfl)), (zin__r3 (.code yX6_answer cX6_answer 2 (some .int)) (List.mem_of_getElem? (i := 3) rfl))⟩
set_option maxHeartbeats 4000000 in
set_option maxRecDepth 100000 in
theorem c_X6_answer (l : Launch) (dC : Nat → ClassId) (dI : Nat → Nat → Nat) (ad : Nat → Nat) (o rw so ba ma : Nat) (cR cJ : ClassId) (sz : Nat) (S : CSt) (x1 : Int32) : Met l yX6_answer zX6_answer ({ frames := 0, cells := 0, slots := 0, locals := 0 }) (va_Pc [.ref o, .int x1] (fun U => cB dC dI ad o rw so ba ma cR cJ sz S U)) (va_Qi (fun r9 S9 => (r9, S9) = f_X6_answer S x1) (cE dC dI ad o rw so ba ma cR cJ (va_A (cWs ad o rw so ba ma cR cJ S) sz)) (va_A (cWs ad o rw so ba ma cR cJ S) sz)) 0 0 (va_A (cWs ad o rw so ba ma cR cJ S) sz) := by
  refine Met.ofW (cc := cX6_answer) (maxL := 2) (ret := (some .int)) (by decide) rfl ?_
  intro p e s m args below meth c s₁ B hml hv
  obtain ⟨rfl, hsz, hP, hK, hD0, hkA⟩ := hv
  have hx := B.exec
  have hb := B.bytes
  have hr := B.returns
  have hts : ∀ w ∈ zall, w.before _ s = true := fun w h => atoms_spec (ws := zX6_answer) B.pre w (List.mem_cons_of_mem _ h)
  have hown : s.vm.findClass RX6 = some m.cls := findClass_of_methodNamed B.named
  have hlocks := B.notSynchronized
  subst hsz
  have hD := hD0.self (sz := s.heap.size)
  generalize hAe : va_A (cWs ad o rw so ba ma cR cJ S) s.heap.size = A at hD hkA ⊢
  have hA : ∀ q : Nat, s.heap.size ≤ q → A q := fun q h => by rw [← hAe]; exact Or.inr h
  have hS : va_S A s.heap s.heap [] := va_S.rf
  have hw : cH dC dI ad o rw so ba ma cR cJ S s s.heap := ⟨hP, hK⟩
  have hk := kA_at hkA hS
  have hl := lv_entry ([.ref o, .int x1]) (n := 2) (Nat.le_of_ble_eq_true rfl)
  rw [lg_entry_eq]
  generalize (lg_sl ([.ref o, .int x1]) ++ List.replicate (2 - (lg_sl ([.ref o, .int x1])).length) Slot.unset).toArray = ls at hl ⊢
  have hl : lv_has ls 2 [(0, .ref o), (1, .int x1)] := hl
  have hf : f_X6_answer S x1 = (x1, (cset_rs S (0 : Int32))) := rfl
  refine lv_aload_n hx hb dX6_answer_0 rfl (lv_at hl 0 rfl) ?_
  refine lv_iconst (v := 0) hx hb dX6_answer_1 (by decide) ?_
  refine va_put (D := (dC, dI)) (ci := 4) (v := .int (0 : Int32)) (ty := .int) (C := RX6) (T := TX6) (N := 5) hx hb hts zin_X6 tyX6 tyX6_ok nmX6 hown hK hP hD hS 0 rfl rfl 4 (by decide) (hts _ (zin__r1 (.fieldLink RX6 29 "ReckonBench" "reason" "I") (List.mem_of_getElem? (i := 18) rfl))) (fun _ h9 => h9) rfl (by decide +kernel) rfl rfl (Nat.le_of_ble_eq_true rfl) dX6_answer_2 (fun H locs hP hD hS => ?_)
  obtain ⟨S_1, e_S_1⟩ : ∃ z : CSt, z = (cset_rs S (0 : Int32)) := ⟨_, rfl⟩
  have hP : va_P (dC, dI) vwCl (cWs ad o rw so ba ma cR cJ S_1) H := by rw [e_S_1]; exact hP
  have hD : va_D A (cWs ad o rw so ba ma cR cJ S_1) := by rw [e_S_1]; exact hD
  have hw : cH dC dI ad o rw so ba ma cR cJ S_1 s H := ⟨hP, hK⟩
  have hk := kA_at hkA hS
  have hf : f_X6_answer S x1 = (x1, S_1) := hf.trans (congrArg (fun z => (x1, z)) e_S_1.symm)
  refine lv_iload_n hx hb dX6_answer_5 rfl (lv_at hl 1 rfl) ?_
  exact W.iret hx hb hr (fun t ht hW => ⟨⟨_, S_1, rfl, hf.symm, by rw [ht]; exact hP, va_K.moved hW.alike hK, hD⟩, hS.F ht⟩) hS.2.2 dX6_answer_6
def f_X6_answerLong (S : CSt) (x1 : Int64) : Int64 × CSt := (x1, (cset_rs S (0 : Int32)))
def zX6_answerLong : List Cond := .code yX6_answerLong cX6_answerLong 3 (some .long) :: zall
theorem iX6_answerLong : MWv RX6 yX6_answerLong (.code yX6_answerLong cX6_answerLong 3 (some .long)) := ⟨(zin__r7 (.instanceMethod yX6_answerLong) (List.mem_of_getElem? (i := 0) rfl)), (zin__r7 (.selects RX6 yX6_answerLong yX6_answerLong) (List.mem_of_getElem? (i := 1) rfl)), (zin__r1 (.initialized RX6) (List.mem_of_getElem? (i := 2) rfl)), (zin__r7 (.code yX6_answerLong cX6_answerLong 3 (some .long)) (List.mem_of_getElem? (i := 2) rfl))⟩
set_option maxHeartbeats 4000000 in
set_option maxRecDepth 100000 in
theorem c_X6_answerLong (l : Launch) (dC : Nat → ClassId) (dI : Nat → Nat → Nat) (ad : Nat → Nat) (o rw so ba ma : Nat) (cR cJ : ClassId) (sz : Nat) (S : CSt) (x1 : Int64) : Met l yX6_answerLong zX6_answerLong ({ frames := 0, cells := 0, slots := 0, locals := 0 }) (va_Pc [.ref o, .long x1] (fun U => cB dC dI ad o rw so ba ma cR cJ sz S U)) (va_Ql (fun r9 S9 => (r9, S9) = f_X6_answerLong S x1) (cE dC dI ad o rw so ba ma cR cJ (va_A (cWs ad o rw so ba ma cR cJ S) sz)) (va_A (cWs ad o rw so ba ma cR cJ S) sz)) 0 0 (va_A (cWs ad o rw so ba ma cR cJ S) sz) := by
  refine Met.ofW (cc := cX6_answerLong) (maxL := 3) (ret := (some .long)) (by decide) rfl ?_
  intro p e s m args below meth c s₁ B hml hv
  obtain ⟨rfl, hsz, hP, hK, hD0, hkA⟩ := hv
  have hx := B.exec
  have hb := B.bytes
  have hr := B.returns
  have hts : ∀ w ∈ zall, w.before _ s = true := fun w h => atoms_spec (ws := zX6_answerLong) B.pre w (List.mem_cons_of_mem _ h)
  have hown : s.vm.findClass RX6 = some m.cls := findClass_of_methodNamed B.named
  have hlocks := B.notSynchronized
  subst hsz
  have hD := hD0.self (sz := s.heap.size)
  generalize hAe : va_A (cWs ad o rw so ba ma cR cJ S) s.heap.size = A at hD hkA ⊢
  have hA : ∀ q : Nat, s.heap.size ≤ q → A q := fun q h => by rw [← hAe]; exact Or.inr h
  have hS : va_S A s.heap s.heap [] := va_S.rf
  have hw : cH dC dI ad o rw so ba ma cR cJ S s s.heap := ⟨hP, hK⟩
  have hk := kA_at hkA hS
  have hl := lv_entry ([.ref o, .long x1]) (n := 3) (Nat.le_of_ble_eq_true rfl)
  rw [lg_entry_eq]
  generalize (lg_sl ([.ref o, .long x1]) ++ List.replicate (3 - (lg_sl ([.ref o, .long x1])).length) Slot.unset).toArray = ls at hl ⊢
  have hl : lv_has ls 3 [(0, .ref o), (1, .long x1)] := hl
  have hf : f_X6_answerLong S x1 = (x1, (cset_rs S (0 : Int32))) := rfl
  refine lv_aload_n hx hb dX6_answerLong_0 rfl (lv_at hl 0 rfl) ?_
  refine lv_iconst (v := 0) hx hb dX6_answerLong_1 (by decide) ?_
  refine va_put (D := (dC, dI)) (ci := 4) (v := .int (0 : Int32)) (ty := .int) (C := RX6) (T := TX6) (N := 5) hx hb hts zin_X6 tyX6 tyX6_ok nmX6 hown hK hP hD hS 0 rfl rfl 4 (by decide) (hts _ (zin__r1 (.fieldLink RX6 29 "ReckonBench" "reason" "I") (List.mem_of_getElem? (i := 18) rfl))) (fun _ h9 => h9) rfl (by decide +kernel) rfl rfl (Nat.le_of_ble_eq_true rfl) dX6_answerLong_2 (fun H locs hP hD hS => ?_)
  obtain ⟨S_1, e_S_1⟩ : ∃ z : CSt, z = (cset_rs S (0 : Int32)) := ⟨_, rfl⟩
  have hP : va_P (dC, dI) vwCl (cWs ad o rw so ba ma cR cJ S_1) H := by rw [e_S_1]; exact hP
  have hD : va_D A (cWs ad o rw so ba ma cR cJ S_1) := by rw [e_S_1]; exact hD
  have hw : cH dC dI ad o rw so ba ma cR cJ S_1 s H := ⟨hP, hK⟩
  have hk := kA_at hkA hS
  have hf : f_X6_answerLong S x1 = (x1, S_1) := hf.trans (congrArg (fun z => (x1, z)) e_S_1.symm)
  refine lv_lload_n hx hb dX6_answerLong_5 rfl (lv_at hl 1 rfl) ?_
  exact W.lret hx hb hr (fun t ht hW => ⟨⟨_, S_1, rfl, hf.symm, by rw [ht]; exact hP, va_K.moved hW.alike hK, hD⟩, hS.F ht⟩) hS.2.2 dX6_answerLong_6
def f_X6_status (S : CSt) : Int32 := (crs S)
def f_X6_set_1 (p9 : Int32 × CSt) : Int32 × CSt := (p9.1, p9.2)
def f_X6_set_2 (S : CSt) (x1 : Int32) (p9 : Int32 × (Nat → Int64)) : Int32 × CSt := (f_X6_set_1 (f_X6_answer (cset_bt S x1.toNatClampNeg p9.2) p9.1))
def f_X6_set_3 (S : CSt) (x1 : Int32) (x2 : Int32) (x3 : Int64) : Int32 × CSt := if (f_X3_has (ckd S x1.toNatClampNeg) (cln S x1.toNatClampNeg) (cbt S x1.toNatClampNeg) x2) = 0 then (f_X6_set_1 (f_X6_refuse S (2 : Int32))) else (f_X6_set_2 S x1 (f_X3_put (cbt S x1.toNatClampNeg) (ckd S x1.toNatClampNeg) x2 (f_X1_cleaned (ckd S x1.toNatClampNeg) x3)))
def f_X6_set_4 (x1 : Int32) (S : CSt) (x2 : Int32) (x3 : Int64) : Int32 × CSt := if 0 ≤ x1 ∧ x1 < nI (cn S) then (f_X6_set_3 S x1 x2 x3) else (f_X6_set_1 (f_X6_refuse S (1 : Int32)))
def f_X6_set (S : CSt) (x1 : Int32) (x2 : Int32) (x3 : Int64) : Int32 × CSt := (f_X6_set_4 x1 S x2 x3)
def zX6_set : List Cond := .code yX6_set cX6_set 6 (some .int) :: zall
theorem iX6_set : MWv RX6 yX6_set (.code yX6_set cX6_set 6 (some .int)) := ⟨(zin__r3 (.instanceMethod yX6_set) (List.mem_of_getElem? (i := 5) rfl)), (zin__r3 (.selects RX6 yX6_set yX6_set) (List.mem_of_getElem? (i := 6) rfl)), (zin__r1 (.initialized RX6) (List.mem_of_getElem? (i := 2) rfl)), (zin__r3 (.code yX6_set cX6_set 6 (some .int)) (List.mem_of_getElem? (i := 7) rfl))⟩
set_option maxHeartbeats 4000000 in
set_option maxRecDepth 100000 in
theorem c_X6_set (l : Launch) (dC : Nat → ClassId) (dI : Nat → Nat → Nat) (ad : Nat → Nat) (o rw so ba ma : Nat) (cR cJ : ClassId) (sz : Nat) (S : CSt) (x1 : Int32) (x2 : Int32) (x3 : Int64) (hI : cInv S) : Met l yX6_set zX6_set ({ frames := 4, cells := 0, slots := 0, locals := 92 }) (va_Pc [.ref o, .int x1, .int x2, .long x3] (fun U => cB dC dI ad o rw so ba ma cR cJ sz S U)) (va_Qi (fun r9 S9 => (r9, S9) = f_X6_set S x1 x2 x3) (cE dC dI ad o rw so ba ma cR cJ (va_A (cWs ad o rw so ba ma cR cJ S) sz)) (va_A (cWs ad o rw so ba ma cR cJ S) sz)) 0 0 (va_A (cWs ad o rw so ba ma cR cJ S) sz) := by
  refine Met.ofW (cc := cX6_set) (maxL := 6) (ret := (some .int)) (by decide) rfl ?_
  intro p e s m args below meth c s₁ B hml hv
  obtain ⟨rfl, hsz, hP, hK, hD0, hkA⟩ := hv
  have hx := B.exec
  have hb := B.bytes
  have hr := B.returns
  have hts : ∀ w ∈ zall, w.before _ s = true := fun w h => atoms_spec (ws := zX6_set) B.pre w (List.mem_cons_of_mem _ h)
  have hown : s.vm.findClass RX6 = some m.cls := findClass_of_methodNamed B.named
  have hlocks := B.notSynchronized
  subst hsz
  have hD := hD0.self (sz := s.heap.size)
  generalize hAe : va_A (cWs ad o rw so ba ma cR cJ S) s.heap.size = A at hD hkA ⊢
  have hA : ∀ q : Nat, s.heap.size ≤ q → A q := fun q h => by rw [← hAe]; exact Or.inr h
  have hS : va_S A s.heap s.heap [] := va_S.rf
  have hw : cH dC dI ad o rw so ba ma cR cJ S s s.heap := ⟨hP, hK⟩
  have hk := kA_at hkA hS
  have hl := lv_entry ([.ref o, .int x1, .int x2, .long x3]) (n := 6) (Nat.le_of_ble_eq_true rfl)
  rw [lg_entry_eq]
  generalize (lg_sl ([.ref o, .int x1, .int x2, .long x3]) ++ List.replicate (6 - (lg_sl ([.ref o, .int x1, .int x2, .long x3])).length) Slot.unset).toArray = ls at hl ⊢
  have hl : lv_has ls 6 [(0, .ref o), (1, .int x1), (2, .int x2), (3, .long x3)] := hl
  have hf : f_X6_set S x1 x2 x3 = (f_X6_set_4 x1 S x2 x3) := rfl
  refine lv_aload_n hx hb dX6_set_0 rfl (lv_at hl 0 rfl) ?_
  refine lv_iload_n hx hb dX6_set_1 rfl (lv_at hl 1 rfl) ?_
  refine va_csq (va_Run.run (va_runV (As := [.int x1]) (rest := []) ⟨hx, hb, hml, hown, hts⟩ (c_X6_rowAt l dC dI ad o rw so ba ma cR cJ S x1 hI) (cwV 1 hts (gV iX6_rowAt (zin__r3 (.methodLink RX6 51 yX6_rowAt) (List.mem_of_getElem? (i := 9) rfl))) rfl rfl rfl (by decide +kernel) ⟨Nat.le_of_ble_eq_true rfl, Nat.le_of_ble_eq_true rfl⟩) ⟨fun a U g mk q => ⟨q.1, cW_bl q.2⟩, cW_rv hw, fun U hU hW => ⟨rfl, cW_mv hw hU hW⟩⟩ rfl rfl hl.1 rfl (lv_room (Nat.le_of_ble_eq_true rfl)) dX6_set_2 ⟨Nat.zero_le _, Nat.zero_le _⟩)) (fun r_2 hr_2 => ?_)
  rcases Decidable.em (0 ≤ x1 ∧ x1 < nI (cn S)) with c_2 | c_2
  · rw [if_pos c_2] at hr_2
    subst hr_2
    have hj_q2 : x1.toNatClampNeg < cn S := cRow_lt hI c_2
    have hr_q2 := rH_of hts hw hj_q2
    have hn_q2 : cln S x1.toNatClampNeg ≤ 500 := (hI.2 _ hj_q2).2.2
    have hkq_q2 : ckd S x1.toNatClampNeg < 2 := (hI.2 _ hj_q2).1
    have hf : f_X6_set S x1 x2 x3 = (f_X6_set_3 S x1 x2 x3) := hf.trans (if_pos c_2)
    refine lv_astore (lv' := [(5, .ref (cro S x1.toNatClampNeg)), (0, .ref o), (1, .int x1), (2, .int x2), (3, .long x3)]) hx hb dX6_set_5 hl (by decide) rfl (fun ls hl => ?_)
    refine lv_aload hx hb dX6_set_7 (lv_at hl 0 rfl) ?_
    refine lv_ifnonnull (tgt := 18) hx hb dX6_set_9 (by decide) ?_
    refine lv_aload hx hb dX6_set_18 (lv_at hl 0 rfl) ?_
    refine lv_iload_n hx hb dX6_set_20 rfl (lv_at hl 3 rfl) ?_
    refine vp_callSi (va_Run.run (va_runV (As := [.int x2]) (rest := []) ⟨hx, hb, hml, hown, hts⟩ (c_X3_has l ad (cro S x1.toNatClampNeg) (cna S x1.toNatClampNeg) (cln S x1.toNatClampNeg) (cbt S x1.toNatClampNeg) (ckd S x1.toNatClampNeg) hkq_q2 x2) (cwV 1 hts (gV iX3_has (zin__r3 (.methodLink RX6 55 yX3_has) (List.mem_of_getElem? (i := 13) rfl))) rfl rfl rfl (by decide +kernel) ⟨Nat.le_of_ble_eq_true rfl, Nat.le_of_ble_eq_true rfl⟩) ⟨fun a U g mk q => ⟨q.1, kU_bl q.2.1, rU_bl q.2.2⟩, (rU_rv hr_q2), fun U hU hW => ⟨rfl, ⟨kU_mvH hk hU hW, rU_mvH hr_q2 hU hW⟩⟩⟩ rfl rfl hl.1 rfl (lv_room (Nat.le_of_ble_eq_true rfl)) dX6_set_21 ⟨Nat.zero_le _, Nat.zero_le _⟩)) (fun r_21 hr_21 => ?_)
    subst hr_21
    refine lv_if_ne (tgt := 33) hx hb dX6_set_24 (by decide) (fun c_24 => ?_) (fun c_24 => ?_)
    · have hf : f_X6_set S x1 x2 x3 = (f_X6_set_2 S x1 (f_X3_put (cbt S x1.toNatClampNeg) (ckd S x1.toNatClampNeg) x2 (f_X1_cleaned (ckd S x1.toNatClampNeg) x3))) := hf.trans (if_neg c_24)
      refine lv_aload_n hx hb dX6_set_33 rfl (lv_at hl 1 rfl) ?_
      refine lv_aload hx hb dX6_set_34 (lv_at hl 0 rfl) ?_
      refine lv_iload_n hx hb dX6_set_36 rfl (lv_at hl 3 rfl) ?_
      refine lv_aload hx hb dX6_set_37 (lv_at hl 0 rfl) ?_
      refine gf_H hx hb hr_q2.2.1 hown (hts _ (zin__r3 (.fieldLink RX6 59 "ReckonBench$Row" "kind" "LReckonBench$Kind;") (List.mem_of_getElem? (i := 8) rfl))) (fun _ h9 => h9) dX6_set_39 ?_
      refine lv_lload_n hx hb dX6_set_42 rfl (lv_at hl 4 rfl) ?_
      refine vp_callSl (va_Run.run (va_runV (As := [.long x3]) (rest := [.int x2, .ref (cro S x1.toNatClampNeg), .ref o]) ⟨hx, hb, hml, hown, hts⟩ (c_X1_cleaned l ad (ckd S x1.toNatClampNeg) hkq_q2 x3) (cwV 1 hts (gV iX1_cleaned (zin__r3 (.methodLink RX6 62 yX1_cleaned) (List.mem_of_getElem? (i := 17) rfl))) rfl rfl rfl (by decide +kernel) ⟨Nat.le_of_ble_eq_true rfl, Nat.le_of_ble_eq_true rfl⟩) ⟨fun a U g mk q => ⟨q.1, kU_bl q.2⟩, (kA_rv hk hkq_q2), fun U hU hW => ⟨rfl, kU_mvH hk hU hW⟩⟩ rfl rfl hl.1 rfl (lv_room (Nat.le_of_ble_eq_true rfl)) dX6_set_43 ⟨Nat.zero_le _, Nat.zero_le _⟩)) (fun r_43 hr_43 => ?_)
      subst hr_43
      have hFc := cRow_free (j := x1.toNatClampNeg) hD hS hA hj_q2
      refine va_calli (va_runV (As := [.int x2, .long (f_X1_cleaned (ckd S x1.toNatClampNeg) x3)]) (rest := [.ref o]) ⟨hx, hb, hml, hown, hts⟩ (c_X3_put l dC dI ad (cro S x1.toNatClampNeg) (ckd S x1.toNatClampNeg) (cna S x1.toNatClampNeg) (cln S x1.toNatClampNeg) hkq_q2 cJ s.heap.size (cbt S x1.toNatClampNeg) x2 (f_X1_cleaned (ckd S x1.toNatClampNeg) x3) (has_in hn_q2 c_24)) (cwV 2 hts (gV iX3_put (zin__r4 (.methodLink RX6 66 yX3_put) (List.mem_of_getElem? (i := 9) rfl))) rfl rfl rfl (by decide +kernel) ⟨Nat.le_of_ble_eq_true rfl, Nat.le_of_ble_eq_true rfl⟩) ⟨fun a U g mk q => ⟨q.1, rB_bl q.2⟩, rU_rv hr_q2, fun U hU hW => ⟨rfl, rB_mv hw hD (kA_in hkA hS hFc) hj_q2 hU hW⟩⟩ rfl rfl hl.1 rfl (lv_room (Nat.le_of_ble_eq_true rfl)) dX6_set_46 ⟨Nat.zero_le _, Nat.zero_le _⟩) hS (fun q _ h => hFc q h) hFc (fun r_46 f_1 t H1 locs ht hvm hw1 hB hz1 hk1 hS => ?_)
      obtain ⟨hP1, -, hD1⟩ := hB
      rw [ht] at hP1
      obtain ⟨hP, hD⟩ := cW_put hw.1 hD hj_q2 hP1 hk1
      generalize H1 = H at hP hS ⊢
      obtain ⟨S_2, e_S_2⟩ : ∃ z : CSt, z = (cset_bt S x1.toNatClampNeg f_1) := ⟨_, rfl⟩
      rw [← e_S_2] at hP hD
      have hw : cH dC dI ad o rw so ba ma cR cJ S_2 s H := ⟨hP, hK⟩
      have hk := kA_at hkA hS
      have hI : cInv S_2 := by rw [e_S_2]; exact hI
      have hf : f_X6_set S x1 x2 x3 = (f_X6_set_1 (f_X6_answer S_2 r_46)) := by rw [e_S_2]; exact hf.trans (congrArg (fun z => (f_X6_set_2 S x1 z)) hw1.symm)
      have hFc := va_freeAll hD hS hA
      refine va_calli (va_runV (As := [.int r_46]) (rest := []) ⟨hx, hb, hml, hown, hts⟩ (c_X6_answer l dC dI ad o rw so ba ma cR cJ H.size S_2 r_46) (cwV 1 hts (gV iX6_answer (zin__r3 (.methodLink RX6 48 yX6_answer) (List.mem_of_getElem? (i := 0) rfl))) rfl rfl rfl (by decide +kernel) ⟨Nat.le_of_ble_eq_true rfl, Nat.le_of_ble_eq_true rfl⟩) ⟨fun a U g mk q => ⟨q.1, cB_bl q.2⟩, cW_rv hw, fun U hU hW => ⟨rfl, cB_mv hw hD (kA_in hkA hS hFc) hU hW⟩⟩ rfl rfl hl.1 rfl (lv_room (Nat.le_of_ble_eq_true rfl)) dX6_set_49 ⟨Nat.zero_le _, Nat.zero_le _⟩) hS (fun q _ h => hFc q h) hFc (fun r_49 S_3 t H1 locs ht hvm hw1 hB hz1 hk1 hS => ?_)
      obtain ⟨hP, -, hD1⟩ := hB
      rw [ht] at hP
      have hD := hD1.weaken (fun k q _ h => hFc q.1 h)
      generalize H1 = H at hP hS ⊢
      have hw : cH dC dI ad o rw so ba ma cR cJ S_3 s H := ⟨hP, hK⟩
      have hk := kA_at hkA hS
      have hf : f_X6_set S x1 x2 x3 = (r_49, S_3) := hf.trans (congrArg (fun z => (f_X6_set_1 z)) hw1.symm)
      exact W.iret hx hb hr (fun t ht hW => ⟨⟨_, S_3, rfl, hf.symm, by rw [ht]; exact hP, va_K.moved hW.alike hK, hD⟩, hS.F ht⟩) hS.2.2 dX6_set_52
    · have hf : f_X6_set S x1 x2 x3 = (f_X6_set_1 (f_X6_refuse S (2 : Int32))) := hf.trans (if_pos c_24)
      refine lv_aload_n hx hb dX6_set_27 rfl (lv_at hl 1 rfl) ?_
      refine lv_iconst (v := 2) hx hb dX6_set_28 (by decide) ?_
      have hFc := va_freeAll hD hS hA
      refine va_calli (va_runV (As := [.int (2 : Int32)]) (rest := []) ⟨hx, hb, hml, hown, hts⟩ (c_X6_refuse l dC dI ad o rw so ba ma cR cJ s.heap.size S (2 : Int32)) (cwV 1 hts (gV iX6_refuse (zin__r2 (.methodLink RX6 32 yX6_refuse) (List.mem_of_getElem? (i := 14) rfl))) rfl rfl rfl (by decide +kernel) ⟨Nat.le_of_ble_eq_true rfl, Nat.le_of_ble_eq_true rfl⟩) ⟨fun a U g mk q => ⟨q.1, cB_bl q.2⟩, cW_rv hw, fun U hU hW => ⟨rfl, cB_mv hw hD (kA_in hkA hS hFc) hU hW⟩⟩ rfl rfl hl.1 rfl (lv_room (Nat.le_of_ble_eq_true rfl)) dX6_set_29 ⟨Nat.zero_le _, Nat.zero_le _⟩) hS (fun q _ h => hFc q h) hFc (fun r_29 S_4 t H1 locs ht hvm hw1 hB hz1 hk1 hS => ?_)
      obtain ⟨hP, -, hD1⟩ := hB
      rw [ht] at hP
      have hD := hD1.weaken (fun k q _ h => hFc q.1 h)
      generalize H1 = H at hP hS ⊢
      have hw : cH dC dI ad o rw so ba ma cR cJ S_4 s H := ⟨hP, hK⟩
      have hk := kA_at hkA hS
      have hf : f_X6_set S x1 x2 x3 = (r_29, S_4) := hf.trans (congrArg (fun z => (f_X6_set_1 z)) hw1.symm)
      exact W.iret hx hb hr (fun t ht hW => ⟨⟨_, S_4, rfl, hf.symm, by rw [ht]; exact hP, va_K.moved hW.alike hK, hD⟩, hS.F ht⟩) hS.2.2 dX6_set_32
  · rw [if_neg c_2] at hr_2
    subst hr_2
    have hf : f_X6_set S x1 x2 x3 = (f_X6_set_1 (f_X6_refuse S (1 : Int32))) := hf.trans (if_neg c_2)
    refine lv_astoreN (lv' := [(5, .null), (0, .ref o), (1, .int x1), (2, .int x2), (3, .long x3)]) hx hb dX6_set_5 hl (by decide) rfl (fun ls hl => ?_)
    refine lv_aloadN hx hb dX6_set_7 (lv_at hl 0 rfl) ?_
    refine lv_ifnonnullN hx hb dX6_set_9 ?_
    refine lv_aload_n hx hb dX6_set_12 rfl (lv_at hl 1 rfl) ?_
    refine lv_iconst (v := 1) hx hb dX6_set_13 (by decide) ?_
    have hFc := va_freeAll hD hS hA
    refine va_calli (va_runV (As := [.int (1 : Int32)]) (rest := []) ⟨hx, hb, hml, hown, hts⟩ (c_X6_refuse l dC dI ad o rw so ba ma cR cJ s.heap.size S (1 : Int32)) (cwV 1 hts (gV iX6_refuse (zin__r2 (.methodLink RX6 32 yX6_refuse) (List.mem_of_getElem? (i := 14) rfl))) rfl rfl rfl (by decide +kernel) ⟨Nat.le_of_ble_eq_true rfl, Nat.le_of_ble_eq_true rfl⟩) ⟨fun a U g mk q => ⟨q.1, cB_bl q.2⟩, cW_rv hw, fun U hU hW => ⟨rfl, cB_mv hw hD (kA_in hkA hS hFc) hU hW⟩⟩ rfl rfl hl.1 rfl (lv_room (Nat.le_of_ble_eq_true rfl)) dX6_set_14 ⟨Nat.zero_le _, Nat.zero_le _⟩) hS (fun q _ h => hFc q h) hFc (fun r_14 S_5 t H1 locs ht hvm hw1 hB hz1 hk1 hS => ?_)
    obtain ⟨hP, -, hD1⟩ := hB
    rw [ht] at hP
    have hD := hD1.weaken (fun k q _ h => hFc q.1 h)
    generalize H1 = H at hP hS ⊢
    have hw : cH dC dI ad o rw so ba ma cR cJ S_5 s H := ⟨hP, hK⟩
    have hk := kA_at hkA hS
    have hf : f_X6_set S x1 x2 x3 = (r_14, S_5) := hf.trans (congrArg (fun z => (f_X6_set_1 z)) hw1.symm)
    exact W.iret hx hb hr (fun t ht hW => ⟨⟨_, S_5, rfl, hf.symm, by rw [ht]; exact hP, va_K.moved hW.alike hK, hD⟩, hS.F ht⟩) hS.2.2 dX6_set_17
def f_X6_whole_1 (p9 : Int32 × CSt) : Int32 × CSt := (p9.1, p9.2)
def f_X6_whole_2 (S : CSt) (x1 : Int32) (p9 : Int32 × (Nat → Int64)) : Int32 × CSt := (f_X6_whole_1 (f_X6_answer (cset_bt S x1.toNatClampNeg p9.2) p9.1))
def f_X6_whole_3 (S : CSt) (x1 : Int32) (x2 : Int32) (x3 : Int64) : Int32 × CSt := if (f_X3_has (ckd S x1.toNatClampNeg) (cln S x1.toNatClampNeg) (cbt S x1.toNatClampNeg) x2) = 0 then (f_X6_whole_1 (f_X6_refuse S (2 : Int32))) else (f_X6_whole_2 S x1 (f_X3_put (cbt S x1.toNatClampNeg) (ckd S x1.toNatClampNeg) x2 (f_X2_ofWhole (ckd S x1.toNatClampNeg) x3)))
def f_X6_whole_4 (x1 : Int32) (S : CSt) (x2 : Int32) (x3 : Int64) : Int32 × CSt := if 0 ≤ x1 ∧ x1 < nI (cn S) then (f_X6_whole_3 S x1 x2 x3) else (f_X6_whole_1 (f_X6_refuse S (1 : Int32)))
def f_X6_whole (S : CSt) (x1 : Int32) (x2 : Int32) (x3 : Int64) : Int32 × CSt := (f_X6_whole_4 x1 S x2 x3)
def f_X6_get_1 (p9 : Int64 × CSt) : Int64 × CSt := (p9.1, p9.2)
def f_X6_get_2 (S : CSt) (x1 : Int32) (x2 : Int32) : Int64 × CSt := if (f_X3_has (ckd S x1.toNatClampNeg) (cln S x1.toNatClampNeg) (cbt S x1.toNatClampNeg) x2) = 0 then (f_X6_get_1 (f_X6_refuseLong S (2 : Int32))) else (f_X6_get_1 (f_X6_answerLong S ((cbt S x1.toNatClampNeg) x2.toNatClampNeg)))
def f_X6_get_3 (x1 : Int32) (S : CSt) (x2 : Int32) : Int64 × CSt := if 0 ≤ x1 ∧ x1 < nI (cn S) then (f_X6_get_2 S x1 x2) else (f_X6_get_1 (f_X6_refuseLong S (1 : Int32)))
def f_X6_get (S : CSt) (x1 : Int32) (x2 : Int32) : Int64 × CSt := (f_X6_get_3 x1 S x2)
def zX6_get : List Cond := .code yX6_get cX6_get 4 (some .long) :: zall
theorem iX6_get : MWv RX6 yX6_get (.code yX6_get cX6_get 4 (some .long)) := ⟨(zin__r6 (.instanceMethod yX6_get) (List.mem_of_getElem? (i := 16) rfl)), (zin__r6 (.selects RX6 yX6_get yX6_get) (List.mem_of_getElem? (i := 17) rfl)), (zin__r1 (.initialized RX6) (List.mem_of_getElem? (i := 2) rfl)), (zin__r6 (.code yX6_get cX6_get 4 (some .long)) (List.mem_of_getElem? (i := 18) rfl))⟩
set_option maxHeartbeats 4000000 in
set_option maxRecDepth 100000 in
theorem c_X6_get (l : Launch) (dC : Nat → ClassId) (dI : Nat → Nat → Nat) (ad : Nat → Nat) (o rw so ba ma : Nat) (cR cJ : ClassId) (sz : Nat) (S : CSt) (x1 : Int32) (x2 : Int32) (hI : cInv S) : Met l yX6_get zX6_get ({ frames := 1, cells := 0, slots := 0, locals := 22 }) (va_Pc [.ref o, .int x1, .int x2] (fun U => cB dC dI ad o rw so ba ma cR cJ sz S U)) (va_Ql (fun r9 S9 => (r9, S9) = f_X6_get S x1 x2) (cE dC dI ad o rw so ba ma cR cJ (va_A (cWs ad o rw so ba ma cR cJ S) sz)) (va_A (cWs ad o rw so ba ma cR cJ S) sz)) 0 0 (va_A (cWs ad o rw so ba ma cR cJ S) sz) := by
  refine Met.ofW (cc := cX6_get) (maxL := 4) (ret := (some .long)) (by decide) rfl ?_
  intro p e s m args below meth c s₁ B hml hv
  obtain ⟨rfl, hsz, hP, hK, hD0, hkA⟩ := hv
  have hx := B.exec
  have hb := B.bytes
  have hr := B.returns
  have hts : ∀ w ∈ zall, w.before _ s = true := fun w h => atoms_spec (ws := zX6_get) B.pre w (List.mem_cons_of_mem _ h)
  have hown : s.vm.findClass RX6 = some m.cls := findClass_of_methodNamed B.named
  have hlocks := B.notSynchronized
  subst hsz
  have hD := hD0.self (sz := s.heap.size)
  generalize hAe : va_A (cWs ad o rw so ba ma cR cJ S) s.heap.size = A at hD hkA ⊢
  have hA : ∀ q : Nat, s.heap.size ≤ q → A q := fun q h => by rw [← hAe]; exact Or.inr h
  have hS : va_S A s.heap s.heap [] := va_S.rf
  have hw : cH dC dI ad o rw so ba ma cR cJ S s s.heap := ⟨hP, hK⟩
  have hk := kA_at hkA hS
  have hl := lv_entry ([.ref o, .int x1, .int x2]) (n := 4) (Nat.le_of_ble_eq_true rfl)
  rw [lg_entry_eq]
  generalize (lg_sl ([.ref o, .int x1, .int x2]) ++ List.replicate (4 - (lg_sl ([.ref o, .int x1, .int x2])).length) Slot.unset).toArray = ls at hl ⊢
  have hl : lv_has ls 4 [(0, .ref o), (1, .int x1), (2, .int x2)] := hl
  have hf : f_X6_get S x1 x2 = (f_X6_get_3 x1 S x2) := rfl
  refine lv_aload_n hx hb dX6_get_0 rfl (lv_at hl 0 rfl) ?_
  refine lv_iload_n hx hb dX6_get_1 rfl (lv_at hl 1 rfl) ?_
  refine va_csq (va_Run.run (va_runV (As := [.int x1]) (rest := []) ⟨hx, hb, hml, hown, hts⟩ (c_X6_rowAt l dC dI ad o rw so ba ma cR cJ S x1 hI) (cwV 1 hts (gV iX6_rowAt (zin__r3 (.methodLink RX6 51 yX6_rowAt) (List.mem_of_getElem? (i := 9) rfl))) rfl rfl rfl (by decide +kernel) ⟨Nat.le_of_ble_eq_true rfl, Nat.le_of_ble_eq_true rfl⟩) ⟨fun a U g mk q => ⟨q.1, cW_bl q.2⟩, cW_rv hw, fun U hU hW => ⟨rfl, cW_mv hw hU hW⟩⟩ rfl rfl hl.1 rfl (lv_room (Nat.le_of_ble_eq_true rfl)) dX6_get_2 ⟨Nat.zero_le _, Nat.zero_le _⟩)) (fun r_2 hr_2 => ?_)
  rcases Decidable.em (0 ≤ x1 ∧ x1 < nI (cn S)) with c_2 | c_2
  · rw [if_pos c_2] at hr_2
    subst hr_2
    have hj_q2 : x1.toNatClampNeg < cn S := cRow_lt hI c_2
    have hr_q2 := rH_of hts hw hj_q2
    have hn_q2 : cln S x1.toNatClampNeg ≤ 500 := (hI.2 _ hj_q2).2.2
    have hkq_q2 : ckd S x1.toNatClampNeg < 2 := (hI.2 _ hj_q2).1
    have hf : f_X6_get S x1 x2 = (f_X6_get_2 S x1 x2) := hf.trans (if_pos c_2)
    refine lv_astore_n (lv' := [(3, .ref (cro S x1.toNatClampNeg)), (0, .ref o), (1, .int x1), (2, .int x2)]) hx hb dX6_get_5 rfl hl (by decide) rfl (fun ls hl => ?_)
    refine lv_aload_n hx hb dX6_get_6 rfl (lv_at hl 0 rfl) ?_
    refine lv_ifnonnull (tgt := 16) hx hb dX6_get_7 (by decide) ?_
    refine lv_aload_n hx hb dX6_get_16 rfl (lv_at hl 0 rfl) ?_
    refine lv_iload_n hx hb dX6_get_17 rfl (lv_at hl 3 rfl) ?_
    refine vp_callSi (va_Run.run (va_runV (As := [.int x2]) (rest := []) ⟨hx, hb, hml, hown, hts⟩ (c_X3_has l ad (cro S x1.toNatClampNeg) (cna S x1.toNatClampNeg) (cln S x1.toNatClampNeg) (cbt S x1.toNatClampNeg) (ckd S x1.toNatClampNeg) hkq_q2 x2) (cwV 1 hts (gV iX3_has (zin__r3 (.methodLink RX6 55 yX3_has) (List.mem_of_getElem? (i := 13) rfl))) rfl rfl rfl (by decide +kernel) ⟨Nat.le_of_ble_eq_true rfl, Nat.le_of_ble_eq_true rfl⟩) ⟨fun a U g mk q => ⟨q.1, kU_bl q.2.1, rU_bl q.2.2⟩, (rU_rv hr_q2), fun U hU hW => ⟨rfl, ⟨kU_mvH hk hU hW, rU_mvH hr_q2 hU hW⟩⟩⟩ rfl rfl hl.1 rfl (lv_room (Nat.le_of_ble_eq_true rfl)) dX6_get_18 ⟨Nat.zero_le _, Nat.zero_le _⟩)) (fun r_18 hr_18 => ?_)
    subst hr_18
    refine lv_if_ne (tgt := 30) hx hb dX6_get_21 (by decide) (fun c_21 => ?_) (fun c_21 => ?_)
    · have hf : f_X6_get S x1 x2 = (f_X6_get_1 (f_X6_answerLong S ((cbt S x1.toNatClampNeg) x2.toNatClampNeg))) := hf.trans (if_neg c_21)
      refine lv_aload_n hx hb dX6_get_30 rfl (lv_at hl 1 rfl) ?_
      refine lv_aload_n hx hb dX6_get_31 rfl (lv_at hl 0 rfl) ?_
      refine gf_H hx hb hr_q2.2.2.1 hown (hts _ (zin__r5 (.fieldLink RX6 80 "ReckonBench$Row" "numbers" "[J") (List.mem_of_getElem? (i := 4) rfl))) (fun _ h9 => h9) dX6_get_32 ?_
      refine lv_iload_n hx hb dX6_get_35 rfl (lv_at hl 3 rfl) ?_
      refine tl_H hx hb hr_q2.2.2.2 (has_in hn_q2 c_21) (v := .long ((cbt S x1.toNatClampNeg) x2.toNatClampNeg)) rfl dX6_get_36 ?_
      have hFc := va_freeAll hD hS hA
      refine va_calll (va_runV (As := [.long ((cbt S x1.toNatClampNeg) x2.toNatClampNeg)]) (rest := []) ⟨hx, hb, hml, hown, hts⟩ (c_X6_answerLong l dC dI ad o rw so ba ma cR cJ s.heap.size S ((cbt S x1.toNatClampNeg) x2.toNatClampNeg)) (cwV 1 hts (gV iX6_answerLong (zin__r6 (.methodLink RX6 84 yX6_answerLong) (List.mem_of_getElem? (i := 23) rfl))) rfl rfl rfl (by decide +kernel) ⟨Nat.le_of_ble_eq_true rfl, Nat.le_of_ble_eq_true rfl⟩) ⟨fun a U g mk q => ⟨q.1, cB_bl q.2⟩, cW_rv hw, fun U hU hW => ⟨rfl, cB_mv hw hD (kA_in hkA hS hFc) hU hW⟩⟩ rfl rfl hl.1 rfl (lv_room (Nat.le_of_ble_eq_true rfl)) dX6_get_37 ⟨Nat.zero_le _, Nat.zero_le _⟩) hS (fun q _ h => hFc q h) hFc (fun r_37 S_1 t H1 locs ht hvm hw1 hB hz1 hk1 hS => ?_)
      obtain ⟨hP, -, hD1⟩ := hB
      rw [ht] at hP
      have hD := hD1.weaken (fun k q _ h => hFc q.1 h)
      generalize H1 = H at hP hS ⊢
      have hw : cH dC dI ad o rw so ba ma cR cJ S_1 s H := ⟨hP, hK⟩
      have hk := kA_at hkA hS
      have hf : f_X6_get S x1 x2 = (r_37, S_1) := hf.trans (congrArg (fun z => (f_X6_get_1 z)) hw1.symm)
      exact W.lret hx hb hr (fun t ht hW => ⟨⟨_, S_1, rfl, hf.symm, by rw [ht]; exact hP, va_K.moved hW.alike hK, hD⟩, hS.F ht⟩) hS.2.2 dX6_get_40
    · have hf : f_X6_get S x1 x2 = (f_X6_get_1 (f_X6_refuseLong S (2 : Int32))) := hf.trans (if_pos c_21)
      refine lv_aload_n hx hb dX6_get_24 rfl (lv_at hl 1 rfl) ?_
      refine lv_iconst (v := 2) hx hb dX6_get_25 (by decide) ?_
      have hFc := va_freeAll hD hS hA
      refine va_calll (va_runV (As := [.int (2 : Int32)]) (rest := []) ⟨hx, hb, hml, hown, hts⟩ (c_X6_refuseLong l dC dI ad o rw so ba ma cR cJ s.heap.size S (2 : Int32)) (cwV 1 hts (gV iX6_refuseLong (zin__r6 (.methodLink RX6 76 yX6_refuseLong) (List.mem_of_getElem? (i := 19) rfl))) rfl rfl rfl (by decide +kernel) ⟨Nat.le_of_ble_eq_true rfl, Nat.le_of_ble_eq_true rfl⟩) ⟨fun a U g mk q => ⟨q.1, cB_bl q.2⟩, cW_rv hw, fun U hU hW => ⟨rfl, cB_mv hw hD (kA_in hkA hS hFc) hU hW⟩⟩ rfl rfl hl.1 rfl (lv_room (Nat.le_of_ble_eq_true rfl)) dX6_get_26 ⟨Nat.zero_le _, Nat.zero_le _⟩) hS (fun q _ h => hFc q h) hFc (fun r_26 S_2 t H1 locs ht hvm hw1 hB hz1 hk1 hS => ?_)
      obtain ⟨hP, -, hD1⟩ := hB
      rw [ht] at hP
      have hD := hD1.weaken (fun k q _ h => hFc q.1 h)
      generalize H1 = H at hP hS ⊢
      have hw : cH dC dI ad o rw so ba ma cR cJ S_2 s H := ⟨hP, hK⟩
      have hk := kA_at hkA hS
      have hf : f_X6_get S x1 x2 = (r_26, S_2) := hf.trans (congrArg (fun z => (f_X6_get_1 z)) hw1.symm)
      exact W.lret hx hb hr (fun t ht hW => ⟨⟨_, S_2, rfl, hf.symm, by rw [ht]; exact hP, va_K.moved hW.alike hK, hD⟩, hS.F ht⟩) hS.2.2 dX6_get_29
  · rw [if_neg c_2] at hr_2
    subst hr_2
    have hf : f_X6_get S x1 x2 = (f_X6_get_1 (f_X6_refuseLong S (1 : Int32))) := hf.trans (if_neg c_2)
    refine lv_astore_nN (lv' := [(3, .null), (0, .ref o), (1, .int x1), (2, .int x2)]) hx hb dX6_get_5 rfl hl (by decide) rfl (fun ls hl => ?_)
    refine lv_aload_nN hx hb dX6_get_6 rfl (lv_at hl 0 rfl) ?_
    refine lv_ifnonnullN hx hb dX6_get_7 ?_
    refine lv_aload_n hx hb dX6_get_10 rfl (lv_at hl 1 rfl) ?_
    refine lv_iconst (v := 1) hx hb dX6_get_11 (by decide) ?_
    have hFc := va_freeAll hD hS hA
    refine va_calll (va_runV (As := [.int (1 : Int32)]) (rest := []) ⟨hx, hb, hml, hown, hts⟩ (c_X6_refuseLong l dC dI ad o rw so ba ma cR cJ s.heap.size S (1 : Int32)) (cwV 1 hts (gV iX6_refuseLong (zin__r6 (.methodLink RX6 76 yX6_refuseLong) (List.mem_of_getElem? (i := 19) rfl))) rfl rfl rfl (by decide +kernel) ⟨Nat.le_of_ble_eq_true rfl, Nat.le_of_ble_eq_true rfl⟩) ⟨fun a U g mk q => ⟨q.1, cB_bl q.2⟩, cW_rv hw, fun U hU hW => ⟨rfl, cB_mv hw hD (kA_in hkA hS hFc) hU hW⟩⟩ rfl rfl hl.1 rfl (lv_room (Nat.le_of_ble_eq_true rfl)) dX6_get_12 ⟨Nat.zero_le _, Nat.zero_le _⟩) hS (fun q _ h => hFc q h) hFc (fun r_12 S_3 t H1 locs ht hvm hw1 hB hz1 hk1 hS => ?_)
    obtain ⟨hP, -, hD1⟩ := hB
    rw [ht] at hP
    have hD := hD1.weaken (fun k q _ h => hFc q.1 h)
    generalize H1 = H at hP hS ⊢
    have hw : cH dC dI ad o rw so ba ma cR cJ S_3 s H := ⟨hP, hK⟩
    have hk := kA_at hkA hS
    have hf : f_X6_get S x1 x2 = (r_12, S_3) := hf.trans (congrArg (fun z => (f_X6_get_1 z)) hw1.symm)
    exact W.lret hx hb hr (fun t ht hW => ⟨⟨_, S_3, rfl, hf.symm, by rw [ht]; exact hP, va_K.moved hW.alike hK, hD⟩, hS.F ht⟩) hS.2.2 dX6_get_15
def f_X6_cut_1 (p9 : Int64 × CSt) : Int64 × CSt := (p9.1, p9.2)
def f_X6_cut_2 (S : CSt) (v5_2 : Int64) : Int64 × CSt := (f_X6_cut_1 (f_X6_answerLong S v5_2))
def f_X6_cut_3 (x3 : Int32) (S : CSt) (v5_1 : Int64) : Int64 × CSt := if x3 = 0 then (f_X6_cut_2 S v5_1) else (f_X6_cut_2 S (jmaxL (-2147483648 : Int64) (jminL (2147483647 : Int64) v5_1)))
def f_X6_cut_4 (S : CSt) (x1 : Int32) (x2 : Int32) (x3 : Int32) : Int64 × CSt := if (f_X3_has (ckd S x1.toNatClampNeg) (cln S x1.toNatClampNeg) (cbt S x1.toNatClampNeg) x2) = 0 then (f_X6_cut_1 (f_X6_refuseLong S (2 : Int32))) else (f_X6_cut_3 x3 S (f_X2_cutOff (ckd S x1.toNatClampNeg) ((cbt S x1.toNatClampNeg) x2.toNatClampNeg)))
def f_X6_cut_5 (x1 : Int32) (S : CSt) (x2 : Int32) (x3 : Int32) : Int64 × CSt := if 0 ≤ x1 ∧ x1 < nI (cn S) then (f_X6_cut_4 S x1 x2 x3) else (f_X6_cut_1 (f_X6_refuseLong S (1 : Int32)))
def f_X6_cut (S : CSt) (x1 : Int32) (x2 : Int32) (x3 : Int32) : Int64 × CSt := (f_X6_cut_5 x1 S x2 x3)
def f_X6_compare_1 (p9 : Int32 × CSt) : Int32 × CSt := (p9.1, p9.2)
def f_X6_compare_2 (S : CSt) : Int32 × CSt := (f_X6_compare_1 (f_X6_refuse S (2 : Int32)))
def f_X6_compare_3 (S : CSt) (x1 : Int32) (x3 : Int32) (x2 : Int32) : Int32 × CSt := if (f_X3_has (ckd S x1.toNatClampNeg) (cln S x1.toNatClampNeg) (cbt S x1.toNatClampNeg) x3) = 0 then (f_X6_compare_2 S) else (f_X6_compare_1 (f_X6_answer S (f_X1_relations (ckd S x1.toNatClampNeg) ((cbt S x1.toNatClampNeg) x2.toNatClampNeg) ((cbt S x1.toNatClampNeg) x3.toNatClampNeg))))
def f_X6_compare_4 (S : CSt) (x1 : Int32) (x2 : Int32) (x3 : Int32) : Int32 × CSt := if (f_X3_has (ckd S x1.toNatClampNeg) (cln S x1.toNatClampNeg) (cbt S x1.toNatClampNeg) x2) = 0 then (f_X6_compare_2 S) else (f_X6_compare_3 S x1 x3 x2)
def f_X6_compare_5 (x1 : Int32) (S : CSt) (x2 : Int32) (x3 : Int32) : Int32 × CSt := if 0 ≤ x1 ∧ x1 < nI (cn S) then (f_X6_compare_4 S x1 x2 x3) else (f_X6_compare_1 (f_X6_refuse S (1 : Int32)))
def f_X6_compare (S : CSt) (x1 : Int32) (x2 : Int32) (x3 : Int32) : Int32 × CSt := (f_X6_compare_5 x1 S x2 x3)
def zX6_compare : List Cond := .code yX6_compare cX6_compare 5 (some .int) :: zall
theorem iX6_compare : MWv RX6 yX6_compare (.code yX6_compare cX6_compare 5 (some .int)) := ⟨(zin__r5 (.instanceMethod yX6_compare) (List.mem_of_getElem? (i := 1) rfl)), (zin__r5 (.selects RX6 yX6_compare yX6_compare) (List.mem_of_getElem? (i := 2) rfl)), (zin__r1 (.initialized RX6) (List.mem_of_getElem? (i := 2) rfl)), (zin__r5 (.code yX6_compare cX6_compare 5 (some .int)) (List.mem_of_getElem? (i := 3) rfl))⟩
set_option maxHeartbeats 4000000 in
set_option maxRecDepth 100000 in
theorem c_X6_compare (l : Launch) (dC : Nat → ClassId) (dI : Nat → Nat → Nat) (ad : Nat → Nat) (o rw so ba ma : Nat) (cR cJ : ClassId) (sz : Nat) (S : CSt) (x1 : Int32) (x2 : Int32) (x3 : Int32) (hI : cInv S) : Met l yX6_compare zX6_compare ({ frames := 4, cells := 0, slots := 0, locals := 92 }) (va_Pc [.ref o, .int x1, .int x2, .int x3] (fun U => cB dC dI ad o rw so ba ma cR cJ sz S U)) (va_Qi (fun r9 S9 => (r9, S9) = f_X6_compare S x1 x2 x3) (cE dC dI ad o rw so ba ma cR cJ (va_A (cWs ad o rw so ba ma cR cJ S) sz)) (va_A (cWs ad o rw so ba ma cR cJ S) sz)) 0 0 (va_A (cWs ad o rw so ba ma cR cJ S) sz) := by
  refine Met.ofW (cc := cX6_compare) (maxL := 5) (ret := (some .int)) (by decide) rfl ?_
  intro p e s m args below meth c s₁ B hml hv
  obtain ⟨rfl, hsz, hP, hK, hD0, hkA⟩ := hv
  have hx := B.exec
  have hb := B.bytes
  have hr := B.returns
  have hts : ∀ w ∈ zall, w.before _ s = true := fun w h => atoms_spec (ws := zX6_compare) B.pre w (List.mem_cons_of_mem _ h)
  have hown : s.vm.findClass RX6 = some m.cls := findClass_of_methodNamed B.named
  have hlocks := B.notSynchronized
  subst hsz
  have hD := hD0.self (sz := s.heap.size)
  generalize hAe : va_A (cWs ad o rw so ba ma cR cJ S) s.heap.size = A at hD hkA ⊢
  have hA : ∀ q : Nat, s.heap.size ≤ q → A q := fun q h => by rw [← hAe]; exact Or.inr h
  have hS : va_S A s.heap s.heap [] := va_S.rf
  have hw : cH dC dI ad o rw so ba ma cR cJ S s s.heap := ⟨hP, hK⟩
  have hk := kA_at hkA hS
  have hl := lv_entry ([.ref o, .int x1, .int x2, .int x3]) (n := 5) (Nat.le_of_ble_eq_true rfl)
  rw [lg_entry_eq]
  generalize (lg_sl ([.ref o, .int x1, .int x2, .int x3]) ++ List.replicate (5 - (lg_sl ([.ref o, .int x1, .int x2, .int x3])).length) Slot.unset).toArray = ls at hl ⊢
  have hl : lv_has ls 5 [(0, .ref o), (1, .int x1), (2, .int x2), (3, .int x3)] := hl
  have hf : f_X6_compare S x1 x2 x3 = (f_X6_compare_5 x1 S x2 x3) := rfl
  refine lv_aload_n hx hb dX6_compare_0 rfl (lv_at hl 0 rfl) ?_
  refine lv_iload_n hx hb dX6_compare_1 rfl (lv_at hl 1 rfl) ?_
  refine va_csq (va_Run.run (va_runV (As := [.int x1]) (rest := []) ⟨hx, hb, hml, hown, hts⟩ (c_X6_rowAt l dC dI ad o rw so ba ma cR cJ S x1 hI) (cwV 1 hts (gV iX6_rowAt (zin__r3 (.methodLink RX6 51 yX6_rowAt) (List.mem_of_getElem? (i := 9) rfl))) rfl rfl rfl (by decide +kernel) ⟨Nat.le_of_ble_eq_true rfl, Nat.le_of_ble_eq_true rfl⟩) ⟨fun a U g mk q => ⟨q.1, cW_bl q.2⟩, cW_rv hw, fun U hU hW => ⟨rfl, cW_mv hw hU hW⟩⟩ rfl rfl hl.1 rfl (lv_room (Nat.le_of_ble_eq_true rfl)) dX6_compare_2 ⟨Nat.zero_le _, Nat.zero_le _⟩)) (fun r_2 hr_2 => ?_)
  rcases Decidable.em (0 ≤ x1 ∧ x1 < nI (cn S)) with c_2 | c_2
  · rw [if_pos c_2] at hr_2
    subst hr_2
    have hj_q2 : x1.toNatClampNeg < cn S := cRow_lt hI c_2
    have hr_q2 := rH_of hts hw hj_q2
    have hn_q2 : cln S x1.toNatClampNeg ≤ 500 := (hI.2 _ hj_q2).2.2
    have hkq_q2 : ckd S x1.toNatClampNeg < 2 := (hI.2 _ hj_q2).1
    have hf : f_X6_compare S x1 x2 x3 = (f_X6_compare_4 S x1 x2 x3) := hf.trans (if_pos c_2)
    refine lv_astore (lv' := [(4, .ref (cro S x1.toNatClampNeg)), (0, .ref o), (1, .int x1), (2, .int x2), (3, .int x3)]) hx hb dX6_compare_5 hl (by decide) rfl (fun ls hl => ?_)
    refine lv_aload hx hb dX6_compare_7 (lv_at hl 0 rfl) ?_
    refine lv_ifnonnull (tgt := 18) hx hb dX6_compare_9 (by decide) ?_
    refine lv_aload hx hb dX6_compare_18 (lv_at hl 0 rfl) ?_
    refine lv_iload_n hx hb dX6_compare_20 rfl (lv_at hl 3 rfl) ?_
    refine vp_callSi (va_Run.run (va_runV (As := [.int x2]) (rest := []) ⟨hx, hb, hml, hown, hts⟩ (c_X3_has l ad (cro S x1.toNatClampNeg) (cna S x1.toNatClampNeg) (cln S x1.toNatClampNeg) (cbt S x1.toNatClampNeg) (ckd S x1.toNatClampNeg) hkq_q2 x2) (cwV 1 hts (gV iX3_has (zin__r3 (.methodLink RX6 55 yX3_has) (List.mem_of_getElem? (i := 13) rfl))) rfl rfl rfl (by decide +kernel) ⟨Nat.le_of_ble_eq_true rfl, Nat.le_of_ble_eq_true rfl⟩) ⟨fun a U g mk q => ⟨q.1, kU_bl q.2.1, rU_bl q.2.2⟩, (rU_rv hr_q2), fun U hU hW => ⟨rfl, ⟨kU_mvH hk hU hW, rU_mvH hr_q2 hU hW⟩⟩⟩ rfl rfl hl.1 rfl (lv_room (Nat.le_of_ble_eq_true rfl)) dX6_compare_21 ⟨Nat.zero_le _, Nat.zero_le _⟩)) (fun r_21 hr_21 => ?_)
    subst hr_21
    refine W_cut (α := Unit) (pcJ := 36) (nL := 5) (fun v => f_X6_compare S x1 x2 x3 = (f_X6_compare_2 S)) (fun v => []) (fun v => [(0, .ref o)]) (fun v ls hf hl => ?_) (fun K_36 => ?_)
    · have hf : f_X6_compare S x1 x2 x3 = (f_X6_compare_1 (f_X6_refuse S (2 : Int32))) := hf
      have hl : lv_has ls 5 [(0, .ref o)] := hl
      refine lv_aload_n hx hb dX6_compare_36 rfl (lv_at hl 0 rfl) ?_
      refine lv_iconst (v := 2) hx hb dX6_compare_37 (by decide) ?_
      have hFc := va_freeAll hD hS hA
      refine va_calli (va_runV (As := [.int (2 : Int32)]) (rest := []) ⟨hx, hb, hml, hown, hts⟩ (c_X6_refuse l dC dI ad o rw so ba ma cR cJ s.heap.size S (2 : Int32)) (cwV 1 hts (gV iX6_refuse (zin__r2 (.methodLink RX6 32 yX6_refuse) (List.mem_of_getElem? (i := 14) rfl))) rfl rfl rfl (by decide +kernel) ⟨Nat.le_of_ble_eq_true rfl, Nat.le_of_ble_eq_true rfl⟩) ⟨fun a U g mk q => ⟨q.1, cB_bl q.2⟩, cW_rv hw, fun U hU hW => ⟨rfl, cB_mv hw hD (kA_in hkA hS hFc) hU hW⟩⟩ rfl rfl hl.1 rfl (lv_room (Nat.le_of_ble_eq_true rfl)) dX6_compare_38 ⟨Nat.zero_le _, Nat.zero_le _⟩) hS (fun q _ h => hFc q h) hFc (fun r_38 S_1 t H1 locs ht hvm hw1 hB hz1 hk1 hS => ?_)
      obtain ⟨hP, -, hD1⟩ := hB
      rw [ht] at hP
      have hD := hD1.weaken (fun k q _ h => hFc q.1 h)
      generalize H1 = H at hP hS ⊢
      have hw : cH dC dI ad o rw so ba ma cR cJ S_1 s H := ⟨hP, hK⟩
      have hk := kA_at hkA hS
      have hf : f_X6_compare S x1 x2 x3 = (r_38, S_1) := hf.trans (congrArg (fun z => (f_X6_compare_1 z)) hw1.symm)
      exact W.iret hx hb hr (fun t ht hW => ⟨⟨_, S_1, rfl, hf.symm, by rw [ht]; exact hP, va_K.moved hW.alike hK, hD⟩, hS.F ht⟩) hS.2.2 dX6_compare_41
    refine lv_if_eq (tgt := 36) hx hb dX6_compare_24 (by decide) (fun c_24 => ?_) (fun c_24 => ?_)
    · have hf : f_X6_compare S x1 x2 x3 = (f_X6_compare_2 S) := hf.trans (if_pos c_24)
      exact K_36 () ls hf (lv_sub hl [1] rfl)
    · have hf : f_X6_compare S x1 x2 x3 = (f_X6_compare_3 S x1 x3 x2) := hf.trans (if_neg c_24)
      refine lv_aload hx hb dX6_compare_27 (lv_at hl 0 rfl) ?_
      refine lv_iload_n hx hb dX6_compare_29 rfl (lv_at hl 4 rfl) ?_
      refine vp_callSi (va_Run.run (va_runV (As := [.int x3]) (rest := []) ⟨hx, hb, hml, hown, hts⟩ (c_X3_has l ad (cro S x1.toNatClampNeg) (cna S x1.toNatClampNeg) (cln S x1.toNatClampNeg) (cbt S x1.toNatClampNeg) (ckd S x1.toNatClampNeg) hkq_q2 x3) (cwV 1 hts (gV iX3_has (zin__r3 (.methodLink RX6 55 yX3_has) (List.mem_of_getElem? (i := 13) rfl))) rfl rfl rfl (by decide +kernel) ⟨Nat.le_of_ble_eq_true rfl, Nat.le_of_ble_eq_true rfl⟩) ⟨fun a U g mk q => ⟨q.1, kU_bl q.2.1, rU_bl q.2.2⟩, (rU_rv hr_q2), fun U hU hW => ⟨rfl, ⟨kU_mvH hk hU hW, rU_mvH hr_q2 hU hW⟩⟩⟩ rfl rfl hl.1 rfl (lv_room (Nat.le_of_ble_eq_true rfl)) dX6_compare_30 ⟨Nat.zero_le _, Nat.zero_le _⟩)) (fun r_30 hr_30 => ?_)
      subst hr_30
      refine lv_if_ne (tgt := 42) hx hb dX6_compare_33 (by decide) (fun c_33 => ?_) (fun c_33 => ?_)
      · have hf : f_X6_compare S x1 x2 x3 = (f_X6_compare_1 (f_X6_answer S (f_X1_relations (ckd S x1.toNatClampNeg) ((cbt S x1.toNatClampNeg) x2.toNatClampNeg) ((cbt S x1.toNatClampNeg) x3.toNatClampNeg)))) := hf.trans (if_neg c_33)
        refine lv_aload_n hx hb dX6_compare_42 rfl (lv_at hl 1 rfl) ?_
        refine lv_aload hx hb dX6_compare_43 (lv_at hl 0 rfl) ?_
        refine gf_H hx hb hr_q2.2.1 hown (hts _ (zin__r3 (.fieldLink RX6 59 "ReckonBench$Row" "kind" "LReckonBench$Kind;") (List.mem_of_getElem? (i := 8) rfl))) (fun _ h9 => h9) dX6_compare_45 ?_
        refine lv_aload hx hb dX6_compare_48 (lv_at hl 0 rfl) ?_
        refine gf_H hx hb hr_q2.2.2.1 hown (hts _ (zin__r5 (.fieldLink RX6 80 "ReckonBench$Row" "numbers" "[J") (List.mem_of_getElem? (i := 4) rfl))) (fun _ h9 => h9) dX6_compare_50 ?_
        refine lv_iload_n hx hb dX6_compare_53 rfl (lv_at hl 3 rfl) ?_
        refine tl_H hx hb hr_q2.2.2.2 (has_in hn_q2 c_24) (v := .long ((cbt S x1.toNatClampNeg) x2.toNatClampNeg)) rfl dX6_compare_54 ?_
        refine lv_aload hx hb dX6_compare_55 (lv_at hl 0 rfl) ?_
        refine gf_H hx hb hr_q2.2.2.1 hown (hts _ (zin__r5 (.fieldLink RX6 80 "ReckonBench$Row" "numbers" "[J") (List.mem_of_getElem? (i := 4) rfl))) (fun _ h9 => h9) dX6_compare_57 ?_
        refine lv_iload_n hx hb dX6_compare_60 rfl (lv_at hl 4 rfl) ?_
        refine tl_H hx hb hr_q2.2.2.2 (has_in hn_q2 c_33) (v := .long ((cbt S x1.toNatClampNeg) x3.toNatClampNeg)) rfl dX6_compare_61 ?_
        refine vp_callSi (va_Run.run (va_runV (As := [.long ((cbt S x1.toNatClampNeg) x2.toNatClampNeg), .long ((cbt S x1.toNatClampNeg) x3.toNatClampNeg)]) (rest := [.ref o]) ⟨hx, hb, hml, hown, hts⟩ (c_X1_relations l ad (ckd S x1.toNatClampNeg) hkq_q2 ((cbt S x1.toNatClampNeg) x2.toNatClampNeg) ((cbt S x1.toNatClampNeg) x3.toNatClampNeg)) (cwV 2 hts (gV iX1_relations (zin__r5 (.methodLink RX6 103 yX1_relations) (List.mem_of_getElem? (i := 5) rfl))) rfl rfl rfl (by decide +kernel) ⟨Nat.le_of_ble_eq_true rfl, Nat.le_of_ble_eq_true rfl⟩) ⟨fun a U g mk q => ⟨q.1, kU_bl q.2⟩, (kA_rv hk hkq_q2), fun U hU hW => ⟨rfl, kU_mvH hk hU hW⟩⟩ rfl rfl hl.1 rfl (lv_room (Nat.le_of_ble_eq_true rfl)) dX6_compare_62 ⟨Nat.zero_le _, Nat.zero_le _⟩)) (fun r_62 hr_62 => ?_)
        subst hr_62
        have hFc := va_freeAll hD hS hA
        refine va_calli (va_runV (As := [.int (f_X1_relations (ckd S x1.toNatClampNeg) ((cbt S x1.toNatClampNeg) x2.toNatClampNeg) ((cbt S x1.toNatClampNeg) x3.toNatClampNeg))]) (rest := []) ⟨hx, hb, hml, hown, hts⟩ (c_X6_answer l dC dI ad o rw so ba ma cR cJ s.heap.size S (f_X1_relations (ckd S x1.toNatClampNeg) ((cbt S x1.toNatClampNeg) x2.toNatClampNeg) ((cbt S x1.toNatClampNeg) x3.toNatClampNeg))) (cwV 1 hts (gV iX6_answer (zin__r3 (.methodLink RX6 48 yX6_answer) (List.mem_of_getElem? (i := 0) rfl))) rfl rfl rfl (by decide +kernel) ⟨Nat.le_of_ble_eq_true rfl, Nat.le_of_ble_eq_true rfl⟩) ⟨fun a U g mk q => ⟨q.1, cB_bl q.2⟩, cW_rv hw, fun U hU hW => ⟨rfl, cB_mv hw hD (kA_in hkA hS hFc) hU hW⟩⟩ rfl rfl hl.1 rfl (lv_room (Nat.le_of_ble_eq_true rfl)) dX6_compare_65 ⟨Nat.zero_le _, Nat.zero_le _⟩) hS (fun q _ h => hFc q h) hFc (fun r_65 S_2 t H1 locs ht hvm hw1 hB hz1 hk1 hS => ?_)
        obtain ⟨hP, -, hD1⟩ := hB
        rw [ht] at hP
        have hD := hD1.weaken (fun k q _ h => hFc q.1 h)
        generalize H1 = H at hP hS ⊢
        have hw : cH dC dI ad o rw so ba ma cR cJ S_2 s H := ⟨hP, hK⟩
        have hk := kA_at hkA hS
        have hf : f_X6_compare S x1 x2 x3 = (r_65, S_2) := hf.trans (congrArg (fun z => (f_X6_compare_1 z)) hw1.symm)
        exact W.iret hx hb hr (fun t ht hW => ⟨⟨_, S_2, rfl, hf.symm, by rw [ht]; exact hP, va_K.moved hW.alike hK, hD⟩, hS.F ht⟩) hS.2.2 dX6_compare_68
      · have hf : f_X6_compare S x1 x2 x3 = (f_X6_compare_2 S) := hf.trans (if_pos c_33)
        exact K_36 () ls hf (lv_sub hl [1] rfl)
  · rw [if_neg c_2] at hr_2
    subst hr_2
    have hf : f_X6_compare S x1 x2 x3 = (f_X6_compare_1 (f_X6_refuse S (1 : Int32))) := hf.trans (if_neg c_2)
    refine lv_astoreN (lv' := [(4, .null), (0, .ref o), (1, .int x1), (2, .int x2), (3, .int x3)]) hx hb dX6_compare_5 hl (by decide) rfl (fun ls hl => ?_)
    refine lv_aloadN hx hb dX6_compare_7 (lv_at hl 0 rfl) ?_
    refine lv_ifnonnullN hx hb dX6_compare_9 ?_
    refine lv_aload_n hx hb dX6_compare_12 rfl (lv_at hl 1 rfl) ?_
    refine lv_iconst (v := 1) hx hb dX6_compare_13 (by decide) ?_
    have hFc := va_freeAll hD hS hA
    refine va_calli (va_runV (As := [.int (1 : Int32)]) (rest := []) ⟨hx, hb, hml, hown, hts⟩ (c_X6_refuse l dC dI ad o rw so ba ma cR cJ s.heap.size S (1 : Int32)) (cwV 1 hts (gV iX6_refuse (zin__r2 (.methodLink RX6 32 yX6_refuse) (List.mem_of_getElem? (i := 14) rfl))) rfl rfl rfl (by decide +kernel) ⟨Nat.le_of_ble_eq_true rfl, Nat.le_of_ble_eq_true rfl⟩) ⟨fun a U g mk q => ⟨q.1, cB_bl q.2⟩, cW_rv hw, fun U hU hW => ⟨rfl, cB_mv hw hD (kA_in hkA hS hFc) hU hW⟩⟩ rfl rfl hl.1 rfl (lv_room (Nat.le_of_ble_eq_true rfl)) dX6_compare_14 ⟨Nat.zero_le _, Nat.zero_le _⟩) hS (fun q _ h => hFc q h) hFc (fun r_14 S_3 t H1 locs ht hvm hw1 hB hz1 hk1 hS => ?_)
    obtain ⟨hP, -, hD1⟩ := hB
    rw [ht] at hP
    have hD := hD1.weaken (fun k q _ h => hFc q.1 h)
    generalize H1 = H at hP hS ⊢
    have hw : cH dC dI ad o rw so ba ma cR cJ S_3 s H := ⟨hP, hK⟩
    have hk := kA_at hkA hS
    have hf : f_X6_compare S x1 x2 x3 = (r_14, S_3) := hf.trans (congrArg (fun z => (f_X6_compare_1 z)) hw1.symm)
    exact W.iret hx hb hr (fun t ht hW => ⟨⟨_, S_3, rfl, hf.symm, by rw [ht]; exact hP, va_K.moved hW.alike hK, hD⟩, hS.F ht⟩) hS.2.2 dX6_compare_17
def f_X6_between_1 (p9 : Int32 × CSt) : Int32 × CSt := (p9.1, p9.2)
def f_X6_between_2 (S : CSt) : Int32 × CSt := (f_X6_between_1 (f_X6_refuse S (2 : Int32)))
def f_X6_between_3 (S : CSt) (w_5 : Int32) (w_6 : Int32) : Int32 × CSt := (f_X6_between_1 (f_X6_answer S (w_5 + w_6)))
def f_X6_between_4 (S : CSt) (w_5 : Int32) : Int32 × CSt := (f_X6_between_3 S w_5 (0 : Int32))
def f_X6_between_5 (S : CSt) (x1 : Int32) (v11_4 : Int64) (v7_2 : Int64) (w_5 : Int32) : Int32 × CSt := if (f_X1_isBelow (ckd S x1.toNatClampNeg) v11_4 v7_2) = 0 then (f_X6_between_3 S w_5 (2 : Int32)) else (f_X6_between_4 S w_5)
def f_X6_between_6 (S : CSt) (x1 : Int32) (v7_2 : Int64) (v9_3 : Int64) (v11_4 : Int64) (w_5 : Int32) : Int32 × CSt := if (f_X1_isBelow (ckd S x1.toNatClampNeg) v7_2 v9_3) = 0 then (f_X6_between_5 S x1 v11_4 v7_2 w_5) else (f_X6_between_4 S w_5)
def f_X6_between_7 (S : CSt) (x1 : Int32) (v7_2 : Int64) (v9_3 : Int64) (v11_4 : Int64) : Int32 × CSt := (f_X6_between_6 S x1 v7_2 v9_3 v11_4 (0 : Int32))
def f_X6_between_8 (S : CSt) (x1 : Int32) (v7_2 : Int64) (v11_4 : Int64) (v9_3 : Int64) : Int32 × CSt := if (f_X1_atMost (ckd S x1.toNatClampNeg) v7_2 v11_4) = 0 then (f_X6_between_7 S x1 v7_2 v9_3 v11_4) else (f_X6_between_6 S x1 v7_2 v9_3 v11_4 (1 : Int32))
def f_X6_between_9 (S : CSt) (x1 : Int32) (v9_3 : Int64) (v7_2 : Int64) (v11_4 : Int64) : Int32 × CSt := if (f_X1_atMost (ckd S x1.toNatClampNeg) v9_3 v7_2) = 0 then (f_X6_between_7 S x1 v7_2 v9_3 v11_4) else (f_X6_between_8 S x1 v7_2 v11_4 v9_3)
def f_X6_between_10 (S : CSt) (x1 : Int32) (x4 : Int32) (x3 : Int32) (x2 : Int32) : Int32 × CSt := if (f_X3_has (ckd S x1.toNatClampNeg) (cln S x1.toNatClampNeg) (cbt S x1.toNatClampNeg) x4) = 0 then (f_X6_between_2 S) else (f_X6_between_9 S x1 ((cbt S x1.toNatClampNeg) x3.toNatClampNeg) ((cbt S x1.toNatClampNeg) x2.toNatClampNeg) ((cbt S x1.toNatClampNeg) x4.toNatClampNeg))
def f_X6_between_11 (S : CSt) (x1 : Int32) (x3 : Int32) (x4 : Int32) (x2 : Int32) : Int32 × CSt := if (f_X3_has (ckd S x1.toNatClampNeg) (cln S x1.toNatClampNeg) (cbt S x1.toNatClampNeg) x3) = 0 then (f_X6_between_2 S) else (f_X6_between_10 S x1 x4 x3 x2)
def f_X6_between_12 (S : CSt) (x1 : Int32) (x2 : Int32) (x3 : Int32) (x4 : Int32) : Int32 × CSt := if (f_X3_has (ckd S x1.toNatClampNeg) (cln S x1.toNatClampNeg) (cbt S x1.toNatClampNeg) x2) = 0 then (f_X6_between_2 S) else (f_X6_between_11 S x1 x3 x4 x2)
def f_X6_between_13 (x1 : Int32) (S : CSt) (x2 : Int32) (x3 : Int32) (x4 : Int32) : Int32 × CSt := if 0 ≤ x1 ∧ x1 < nI (cn S) then (f_X6_between_12 S x1 x2 x3 x4) else (f_X6_between_1 (f_X6_refuse S (1 : Int32)))
def f_X6_between (S : CSt) (x1 : Int32) (x2 : Int32) (x3 : Int32) (x4 : Int32) : Int32 × CSt := (f_X6_between_13 x1 S x2 x3 x4)
def zX6_between : List Cond := .code yX6_between cX6_between 15 (some .int) :: zall
theorem iX6_between : MWv RX6 yX6_between (.code yX6_between cX6_between 15 (some .int)) := ⟨(zin__r6 (.instanceMethod yX6_between) (List.mem_of_getElem? (i := 10) rfl)), (zin__r6 (.selects RX6 yX6_between yX6_between) (List.mem_of_getElem? (i := 11) rfl)), (zin__r1 (.initialized RX6) (List.mem_of_getElem? (i := 2) rfl)), (zin__r6 (.code yX6_between cX6_between 15 (some .int)) (List.mem_of_getElem? (i := 12) rfl))⟩
set_option maxHeartbeats 4000000 in
set_option maxRecDepth 100000 in
theorem c_X6_between (l : Launch) (dC : Nat → ClassId) (dI : Nat → Nat → Nat) (ad : Nat → Nat) (o rw so ba ma : Nat) (cR cJ : ClassId) (sz : Nat) (S : CSt) (x1 : Int32) (x2 : Int32) (x3 : Int32) (x4 : Int32) (hI : cInv S) : Met l yX6_between zX6_between ({ frames := 3, cells := 0, slots := 0, locals := 68 }) (va_Pc [.ref o, .int x1, .int x2, .int x3, .int x4] (fun U => cB dC dI ad o rw so ba ma cR cJ sz S U)) (va_Qi (fun r9 S9 => (r9, S9) = f_X6_between S x1 x2 x3 x4) (cE dC dI ad o rw so ba ma cR cJ (va_A (cWs ad o rw so ba ma cR cJ S) sz)) (va_A (cWs ad o rw so ba ma cR cJ S) sz)) 0 0 (va_A (cWs ad o rw so ba ma cR cJ S) sz) := by
  refine Met.ofW (cc := cX6_between) (maxL := 15) (ret := (some .int)) (by decide) rfl ?_
  intro p e s m args below meth c s₁ B hml hv
  obtain ⟨rfl, hsz, hP, hK, hD0, hkA⟩ := hv
  have hx := B.exec
  have hb := B.bytes
  have hr := B.returns
  have hts : ∀ w ∈ zall, w.before _ s = true := fun w h => atoms_spec (ws := zX6_between) B.pre w (List.mem_cons_of_mem _ h)
  have hown : s.vm.findClass RX6 = some m.cls := findClass_of_methodNamed B.named
  have hlocks := B.notSynchronized
  subst hsz
  have hD := hD0.self (sz := s.heap.size)
  generalize hAe : va_A (cWs ad o rw so ba ma cR cJ S) s.heap.size = A at hD hkA ⊢
  have hA : ∀ q : Nat, s.heap.size ≤ q → A q := fun q h => by rw [← hAe]; exact Or.inr h
  have hS : va_S A s.heap s.heap [] := va_S.rf
  have hw : cH dC dI ad o rw so ba ma cR cJ S s s.heap := ⟨hP, hK⟩
  have hk := kA_at hkA hS
  have hl := lv_entry ([.ref o, .int x1, .int x2, .int x3, .int x4]) (n := 15) (Nat.le_of_ble_eq_true rfl)
  rw [lg_entry_eq]
  generalize (lg_sl ([.ref o, .int x1, .int x2, .int x3, .int x4]) ++ List.replicate (15 - (lg_sl ([.ref o, .int x1, .int x2, .int x3, .int x4])).length) Slot.unset).toArray = ls at hl ⊢
  have hl : lv_has ls 15 [(0, .ref o), (1, .int x1), (2, .int x2), (3, .int x3), (4, .int x4)] := hl
  have hf : f_X6_between S x1 x2 x3 x4 = (f_X6_between_13 x1 S x2 x3 x4) := rfl
  refine lv_aload_n hx hb dX6_between_0 rfl (lv_at hl 0 rfl) ?_
  refine lv_iload_n hx hb dX6_between_1 rfl (lv_at hl 1 rfl) ?_
  refine va_csq (va_Run.run (va_runV (As := [.int x1]) (rest := []) ⟨hx, hb, hml, hown, hts⟩ (c_X6_rowAt l dC dI ad o rw so ba ma cR cJ S x1 hI) (cwV 1 hts (gV iX6_rowAt (zin__r3 (.methodLink RX6 51 yX6_rowAt) (List.mem_of_getElem? (i := 9) rfl))) rfl rfl rfl (by decide +kernel) ⟨Nat.le_of_ble_eq_true rfl, Nat.le_of_ble_eq_true rfl⟩) ⟨fun a U g mk q => ⟨q.1, cW_bl q.2⟩, cW_rv hw, fun U hU hW => ⟨rfl, cW_mv hw hU hW⟩⟩ rfl rfl hl.1 rfl (lv_room (Nat.le_of_ble_eq_true rfl)) dX6_between_2 ⟨Nat.zero_le _, Nat.zero_le _⟩)) (fun r_2 hr_2 => ?_)
  rcases Decidable.em (0 ≤ x1 ∧ x1 < nI (cn S)) with c_2 | c_2
  · rw [if_pos c_2] at hr_2
    subst hr_2
    have hj_q2 : x1.toNatClampNeg < cn S := cRow_lt hI c_2
    have hr_q2 := rH_of hts hw hj_q2
    have hn_q2 : cln S x1.toNatClampNeg ≤ 500 := (hI.2 _ hj_q2).2.2
    have hkq_q2 : ckd S x1.toNatClampNeg < 2 := (hI.2 _ hj_q2).1
    have hf : f_X6_between S x1 x2 x3 x4 = (f_X6_between_12 S x1 x2 x3 x4) := hf.trans (if_pos c_2)
    refine lv_astore (lv' := [(5, .ref (cro S x1.toNatClampNeg)), (0, .ref o), (1, .int x1), (2, .int x2), (3, .int x3), (4, .int x4)]) hx hb dX6_between_5 hl (by decide) rfl (fun ls hl => ?_)
    refine lv_aload hx hb dX6_between_7 (lv_at hl 0 rfl) ?_
    refine lv_ifnonnull (tgt := 18) hx hb dX6_between_9 (by decide) ?_
    refine lv_aload hx hb dX6_between_18 (lv_at hl 0 rfl) ?_
    refine lv_iload_n hx hb dX6_between_20 rfl (lv_at hl 3 rfl) ?_
    refine vp_callSi (va_Run.run (va_runV (As := [.int x2]) (rest := []) ⟨hx, hb, hml, hown, hts⟩ (c_X3_has l ad (cro S x1.toNatClampNeg) (cna S x1.toNatClampNeg) (cln S x1.toNatClampNeg) (cbt S x1.toNatClampNeg) (ckd S x1.toNatClampNeg) hkq_q2 x2) (cwV 1 hts (gV iX3_has (zin__r3 (.methodLink RX6 55 yX3_has) (List.mem_of_getElem? (i := 13) rfl))) rfl rfl rfl (by decide +kernel) ⟨Nat.le_of_ble_eq_true rfl, Nat.le_of_ble_eq_true rfl⟩) ⟨fun a U g mk q => ⟨q.1, kU_bl q.2.1, rU_bl q.2.2⟩, (rU_rv hr_q2), fun U hU hW => ⟨rfl, ⟨kU_mvH hk hU hW, rU_mvH hr_q2 hU hW⟩⟩⟩ rfl rfl hl.1 rfl (lv_room (Nat.le_of_ble_eq_true rfl)) dX6_between_21 ⟨Nat.zero_le _, Nat.zero_le _⟩)) (fun r_21 hr_21 => ?_)
    subst hr_21
    refine W_cut (α := Unit) (pcJ := 46) (nL := 15) (fun v => f_X6_between S x1 x2 x3 x4 = (f_X6_between_2 S)) (fun v => []) (fun v => [(0, .ref o)]) (fun v ls hf hl => ?_) (fun K_46 => ?_)
    · have hf : f_X6_between S x1 x2 x3 x4 = (f_X6_between_1 (f_X6_refuse S (2 : Int32))) := hf
      have hl : lv_has ls 15 [(0, .ref o)] := hl
      refine lv_aload_n hx hb dX6_between_46 rfl (lv_at hl 0 rfl) ?_
      refine lv_iconst (v := 2) hx hb dX6_between_47 (by decide) ?_
      have hFc := va_freeAll hD hS hA
      refine va_calli (va_runV (As := [.int (2 : Int32)]) (rest := []) ⟨hx, hb, hml, hown, hts⟩ (c_X6_refuse l dC dI ad o rw so ba ma cR cJ s.heap.size S (2 : Int32)) (cwV 1 hts (gV iX6_refuse (zin__r2 (.methodLink RX6 32 yX6_refuse) (List.mem_of_getElem? (i := 14) rfl))) rfl rfl rfl (by decide +kernel) ⟨Nat.le_of_ble_eq_true rfl, Nat.le_of_ble_eq_true rfl⟩) ⟨fun a U g mk q => ⟨q.1, cB_bl q.2⟩, cW_rv hw, fun U hU hW => ⟨rfl, cB_mv hw hD (kA_in hkA hS hFc) hU hW⟩⟩ rfl rfl hl.1 rfl (lv_room (Nat.le_of_ble_eq_true rfl)) dX6_between_48 ⟨Nat.zero_le _, Nat.zero_le _⟩) hS (fun q _ h => hFc q h) hFc (fun r_48 S_1 t H1 locs ht hvm hw1 hB hz1 hk1 hS => ?_)
      obtain ⟨hP, -, hD1⟩ := hB
      rw [ht] at hP
      have hD := hD1.weaken (fun k q _ h => hFc q.1 h)
      generalize H1 = H at hP hS ⊢
      have hw : cH dC dI ad o rw so ba ma cR cJ S_1 s H := ⟨hP, hK⟩
      have hk := kA_at hkA hS
      have hf : f_X6_between S x1 x2 x3 x4 = (r_48, S_1) := hf.trans (congrArg (fun z => (f_X6_between_1 z)) hw1.symm)
      exact W.iret hx hb hr (fun t ht hW => ⟨⟨_, S_1, rfl, hf.symm, by rw [ht]; exact hP, va_K.moved hW.alike hK, hD⟩, hS.F ht⟩) hS.2.2 dX6_between_51
    refine lv_if_eq (tgt := 46) hx hb dX6_between_24 (by decide) (fun c_24 => ?_) (fun c_24 => ?_)
    · have hf : f_X6_between S x1 x2 x3 x4 = (f_X6_between_2 S) := hf.trans (if_pos c_24)
      exact K_46 () ls hf (lv_sub hl [1] rfl)
    · have hf : f_X6_between S x1 x2 x3 x4 = (f_X6_between_11 S x1 x3 x4 x2) := hf.trans (if_neg c_24)
      refine lv_aload hx hb dX6_between_27 (lv_at hl 0 rfl) ?_
      refine lv_iload_n hx hb dX6_between_29 rfl (lv_at hl 4 rfl) ?_
      refine vp_callSi (va_Run.run (va_runV (As := [.int x3]) (rest := []) ⟨hx, hb, hml, hown, hts⟩ (c_X3_has l ad (cro S x1.toNatClampNeg) (cna S x1.toNatClampNeg) (cln S x1.toNatClampNeg) (cbt S x1.toNatClampNeg) (ckd S x1.toNatClampNeg) hkq_q2 x3) (cwV 1 hts (gV iX3_has (zin__r3 (.methodLink RX6 55 yX3_has) (List.mem_of_getElem? (i := 13) rfl))) rfl rfl rfl (by decide +kernel) ⟨Nat.le_of_ble_eq_true rfl, Nat.le_of_ble_eq_true rfl⟩) ⟨fun a U g mk q => ⟨q.1, kU_bl q.2.1, rU_bl q.2.2⟩, (rU_rv hr_q2), fun U hU hW => ⟨rfl, ⟨kU_mvH hk hU hW, rU_mvH hr_q2 hU hW⟩⟩⟩ rfl rfl hl.1 rfl (lv_room (Nat.le_of_ble_eq_true rfl)) dX6_between_30 ⟨Nat.zero_le _, Nat.zero_le _⟩)) (fun r_30 hr_30 => ?_)
      subst hr_30
      refine lv_if_eq (tgt := 46) hx hb dX6_between_33 (by decide) (fun c_33 => ?_) (fun c_33 => ?_)
      · have hf : f_X6_between S x1 x2 x3 x4 = (f_X6_between_2 S) := hf.trans (if_pos c_33)
        exact K_46 () ls hf (lv_sub hl [1] rfl)
      · have hf : f_X6_between S x1 x2 x3 x4 = (f_X6_between_10 S x1 x4 x3 x2) := hf.trans (if_neg c_33)
        refine lv_aload hx hb dX6_between_36 (lv_at hl 0 rfl) ?_
        refine lv_iload hx hb dX6_between_38 (lv_at hl 5 rfl) ?_
        refine vp_callSi (va_Run.run (va_runV (As := [.int x4]) (rest := []) ⟨hx, hb, hml, hown, hts⟩ (c_X3_has l ad (cro S x1.toNatClampNeg) (cna S x1.toNatClampNeg) (cln S x1.toNatClampNeg) (cbt S x1.toNatClampNeg) (ckd S x1.toNatClampNeg) hkq_q2 x4) (cwV 1 hts (gV iX3_has (zin__r3 (.methodLink RX6 55 yX3_has) (List.mem_of_getElem? (i := 13) rfl))) rfl rfl rfl (by decide +kernel) ⟨Nat.le_of_ble_eq_true rfl, Nat.le_of_ble_eq_true rfl⟩) ⟨fun a U g mk q => ⟨q.1, kU_bl q.2.1, rU_bl q.2.2⟩, (rU_rv hr_q2), fun U hU hW => ⟨rfl, ⟨kU_mvH hk hU hW, rU_mvH hr_q2 hU hW⟩⟩⟩ rfl rfl hl.1 rfl (lv_room (Nat.le_of_ble_eq_true rfl)) dX6_between_40 ⟨Nat.zero_le _, Nat.zero_le _⟩)) (fun r_40 hr_40 => ?_)
        subst hr_40
        refine lv_if_ne (tgt := 52) hx hb dX6_between_43 (by decide) (fun c_43 => ?_) (fun c_43 => ?_)
        · have hf : f_X6_between S x1 x2 x3 x4 = (f_X6_between_9 S x1 ((cbt S x1.toNatClampNeg) x3.toNatClampNeg) ((cbt S x1.toNatClampNeg) x2.toNatClampNeg) ((cbt S x1.toNatClampNeg) x4.toNatClampNeg)) := hf.trans (if_neg c_43)
          refine lv_aload hx hb dX6_between_52 (lv_at hl 0 rfl) ?_
          refine gf_H hx hb hr_q2.2.1 hown (hts _ (zin__r3 (.fieldLink RX6 59 "ReckonBench$Row" "kind" "LReckonBench$Kind;") (List.mem_of_getElem? (i := 8) rfl))) (fun _ h9 => h9) dX6_between_54 ?_
          refine lv_astore (lv' := [(6, .ref (ad (ckd S x1.toNatClampNeg))), (5, .ref (cro S x1.toNatClampNeg)), (0, .ref o), (1, .int x1), (2, .int x2), (3, .int x3), (4, .int x4)]) hx hb dX6_between_57 hl (by decide) rfl (fun ls hl => ?_)
          refine lv_aload hx hb dX6_between_59 (lv_at hl 1 rfl) ?_
          refine gf_H hx hb hr_q2.2.2.1 hown (hts _ (zin__r5 (.fieldLink RX6 80 "ReckonBench$Row" "numbers" "[J") (List.mem_of_getElem? (i := 4) rfl))) (fun _ h9 => h9) dX6_between_61 ?_
          refine lv_iload_n hx hb dX6_between_64 rfl (lv_at hl 4 rfl) ?_
          refine tl_H hx hb hr_q2.2.2.2 (has_in hn_q2 c_24) (v := .long ((cbt S x1.toNatClampNeg) x2.toNatClampNeg)) rfl dX6_between_65 ?_
          refine lv_topl (fun v7_2 e_v7_2 => ?_)
          have hf : f_X6_between S x1 x2 x3 x4 = (f_X6_between_9 S x1 ((cbt S x1.toNatClampNeg) x3.toNatClampNeg) v7_2 ((cbt S x1.toNatClampNeg) x4.toNatClampNeg)) := hf.trans (congrArg (fun z => (f_X6_between_9 S x1 ((cbt S x1.toNatClampNeg) x3.toNatClampNeg) z ((cbt S x1.toNatClampNeg) x4.toNatClampNeg))) e_v7_2.symm)
          refine lv_lstore (lv' := [(7, .long v7_2), (6, .ref (ad (ckd S x1.toNatClampNeg))), (5, .ref (cro S x1.toNatClampNeg)), (0, .ref o), (1, .int x1), (2, .int x2), (3, .int x3), (4, .int x4)]) hx hb dX6_between_66 hl (by decide) rfl (fun ls hl => ?_)
          refine lv_aload hx hb dX6_between_68 (lv_at hl 2 rfl) ?_
          refine gf_H hx hb hr_q2.2.2.1 hown (hts _ (zin__r5 (.fieldLink RX6 80 "ReckonBench$Row" "numbers" "[J") (List.mem_of_getElem? (i := 4) rfl))) (fun _ h9 => h9) dX6_between_70 ?_
          refine lv_iload_n hx hb dX6_between_73 rfl (lv_at hl 6 rfl) ?_
          refine tl_H hx hb hr_q2.2.2.2 (has_in hn_q2 c_33) (v := .long ((cbt S x1.toNatClampNeg) x3.toNatClampNeg)) rfl dX6_between_74 ?_
          refine lv_topl (fun v9_3 e_v9_3 => ?_)
          have hf : f_X6_between S x1 x2 x3 x4 = (f_X6_between_9 S x1 v9_3 v7_2 ((cbt S x1.toNatClampNeg) x4.toNatClampNeg)) := hf.trans (congrArg (fun z => (f_X6_between_9 S x1 z v7_2 ((cbt S x1.toNatClampNeg) x4.toNatClampNeg))) e_v9_3.symm)
          refine lv_lstore (lv' := [(9, .long v9_3), (7, .long v7_2), (6, .ref (ad (ckd S x1.toNatClampNeg))), (5, .ref (cro S x1.toNatClampNeg)), (0, .ref o), (1, .int x1), (2, .int x2), (3, .int x3), (4, .int x4)]) hx hb dX6_between_75 hl (by decide) rfl (fun ls hl => ?_)
          refine lv_aload hx hb dX6_between_77 (lv_at hl 3 rfl) ?_
          refine gf_H hx hb hr_q2.2.2.1 hown (hts _ (zin__r5 (.fieldLink RX6 80 "ReckonBench$Row" "numbers" "[J") (List.mem_of_getElem? (i := 4) rfl))) (fun _ h9 => h9) dX6_between_79 ?_
          refine lv_iload hx hb dX6_between_82 (lv_at hl 8 rfl) ?_
          refine tl_H hx hb hr_q2.2.2.2 (has_in hn_q2 c_43) (v := .long ((cbt S x1.toNatClampNeg) x4.toNatClampNeg)) rfl dX6_between_84 ?_
          refine lv_topl (fun v11_4 e_v11_4 => ?_)
          have hf : f_X6_between S x1 x2 x3 x4 = (f_X6_between_9 S x1 v9_3 v7_2 v11_4) := hf.trans (congrArg (fun z => (f_X6_between_9 S x1 v9_3 v7_2 z)) e_v11_4.symm)
          refine lv_lstore (lv' := [(11, .long v11_4), (9, .long v9_3), (7, .long v7_2), (6, .ref (ad (ckd S x1.toNatClampNeg))), (5, .ref (cro S x1.toNatClampNeg)), (0, .ref o), (1, .int x1), (2, .int x2), (3, .int x3), (4, .int x4)]) hx hb dX6_between_85 hl (by decide) rfl (fun ls hl => ?_)
          refine lv_aload hx hb dX6_between_87 (lv_at hl 3 rfl) ?_
          refine lv_lload hx hb dX6_between_89 (lv_at hl 1 rfl) ?_
          refine lv_lload hx hb dX6_between_91 (lv_at hl 2 rfl) ?_
          refine vp_callSi (va_Run.run (va_runV (As := [.long v9_3, .long v7_2]) (rest := []) ⟨hx, hb, hml, hown, hts⟩ (c_X1_atMost l ad (ckd S x1.toNatClampNeg) hkq_q2 v9_3 v7_2) (cwV 2 hts (gV iX1_atMost (zin__r6 (.methodLink RX6 107 yX1_atMost) (List.mem_of_getElem? (i := 13) rfl))) rfl rfl rfl (by decide +kernel) ⟨Nat.le_of_ble_eq_true rfl, Nat.le_of_ble_eq_true rfl⟩) ⟨fun a U g mk q => ⟨q.1, kU_bl q.2⟩, (kA_rv hk hkq_q2), fun U hU hW => ⟨rfl, kU_mvH hk hU hW⟩⟩ rfl rfl hl.1 rfl (lv_room (Nat.le_of_ble_eq_true rfl)) dX6_between_93 ⟨Nat.zero_le _, Nat.zero_le _⟩)) (fun r_93 hr_93 => ?_)
          subst hr_93
          refine W_cut (α := Int32) (pcJ := 116) (nL := 15) (fun v => f_X6_between S x1 x2 x3 x4 = (f_X6_between_6 S x1 v7_2 v9_3 v11_4 v)) (fun v => [.int v]) (fun v => [(0, .ref o), (6, .ref (ad (ckd S x1.toNatClampNeg))), (7, .long v7_2), (9, .long v9_3), (11, .long v11_4)]) (fun w_5 ls hf hl => ?_) (fun K_116 => ?_)
          · have hf : f_X6_between S x1 x2 x3 x4 = (f_X6_between_6 S x1 v7_2 v9_3 v11_4 w_5) := hf
            have hl : lv_has ls 15 [(0, .ref o), (6, .ref (ad (ckd S x1.toNatClampNeg))), (7, .long v7_2), (9, .long v9_3), (11, .long v11_4)] := hl
            refine lv_istore (lv' := [(13, .int w_5), (0, .ref o), (6, .ref (ad (ckd S x1.toNatClampNeg))), (7, .long v7_2), (9, .long v9_3), (11, .long v11_4)]) hx hb dX6_between_116 hl (by decide) rfl (fun ls hl => ?_)
            refine lv_aload hx hb dX6_between_118 (lv_at hl 2 rfl) ?_
            refine lv_lload hx hb dX6_between_120 (lv_at hl 3 rfl) ?_
            refine lv_lload hx hb dX6_between_122 (lv_at hl 4 rfl) ?_
            refine vp_callSi (va_Run.run (va_runV (As := [.long v7_2, .long v9_3]) (rest := []) ⟨hx, hb, hml, hown, hts⟩ (c_X1_isBelow l ad (ckd S x1.toNatClampNeg) hkq_q2 v7_2 v9_3) (cwV 2 hts (gV iX1_isBelow (zin__r6 (.methodLink RX6 111 yX1_isBelow) (List.mem_of_getElem? (i := 14) rfl))) rfl rfl rfl (by decide +kernel) ⟨Nat.le_of_ble_eq_true rfl, Nat.le_of_ble_eq_true rfl⟩) ⟨fun a U g mk q => ⟨q.1, kU_bl q.2⟩, (kA_rv hk hkq_q2), fun U hU hW => ⟨rfl, kU_mvH hk hU hW⟩⟩ rfl rfl hl.1 rfl (lv_room (Nat.le_of_ble_eq_true rfl)) dX6_between_124 ⟨Nat.zero_le _, Nat.zero_le _⟩)) (fun r_124 hr_124 => ?_)
            subst hr_124
            refine W_cut (α := Int32) (pcJ := 147) (nL := 15) (fun v => f_X6_between S x1 x2 x3 x4 = (f_X6_between_3 S w_5 v)) (fun v => [.int v]) (fun v => [(0, .ref o), (13, .int w_5)]) (fun w_6 ls hf hl => ?_) (fun K_147 => ?_)
            · have hf : f_X6_between S x1 x2 x3 x4 = (f_X6_between_1 (f_X6_answer S (w_5 + w_6))) := hf
              have hl : lv_has ls 15 [(0, .ref o), (13, .int w_5)] := hl
              refine lv_istore (lv' := [(14, .int w_6), (0, .ref o), (13, .int w_5)]) hx hb dX6_between_147 hl (by decide) rfl (fun ls hl => ?_)
              refine lv_aload_n hx hb dX6_between_149 rfl (lv_at hl 1 rfl) ?_
              refine lv_iload hx hb dX6_between_150 (lv_at hl 2 rfl) ?_
              refine lv_iload hx hb dX6_between_152 (lv_at hl 0 rfl) ?_
              refine lv_iadd hx hb dX6_between_154 ?_
              have hFc := va_freeAll hD hS hA
              refine va_calli (va_runV (As := [.int (w_5 + w_6)]) (rest := []) ⟨hx, hb, hml, hown, hts⟩ (c_X6_answer l dC dI ad o rw so ba ma cR cJ s.heap.size S (w_5 + w_6)) (cwV 1 hts (gV iX6_answer (zin__r3 (.methodLink RX6 48 yX6_answer) (List.mem_of_getElem? (i := 0) rfl))) rfl rfl rfl (by decide +kernel) ⟨Nat.le_of_ble_eq_true rfl, Nat.le_of_ble_eq_true rfl⟩) ⟨fun a U g mk q => ⟨q.1, cB_bl q.2⟩, cW_rv hw, fun U hU hW => ⟨rfl, cB_mv hw hD (kA_in hkA hS hFc) hU hW⟩⟩ rfl rfl hl.1 rfl (lv_room (Nat.le_of_ble_eq_true rfl)) dX6_between_155 ⟨Nat.zero_le _, Nat.zero_le _⟩) hS (fun q _ h => hFc q h) hFc (fun r_155 S_7 t H1 locs ht hvm hw1 hB hz1 hk1 hS => ?_)
              obtain ⟨hP, -, hD1⟩ := hB
              rw [ht] at hP
              have hD := hD1.weaken (fun k q _ h => hFc q.1 h)
              generalize H1 = H at hP hS ⊢
              have hw : cH dC dI ad o rw so ba ma cR cJ S_7 s H := ⟨hP, hK⟩
              have hk := kA_at hkA hS
              have hf : f_X6_between S x1 x2 x3 x4 = (r_155, S_7) := hf.trans (congrArg (fun z => (f_X6_between_1 z)) hw1.symm)
              exact W.iret hx hb hr (fun t ht hW => ⟨⟨_, S_7, rfl, hf.symm, by rw [ht]; exact hP, va_K.moved hW.alike hK, hD⟩, hS.F ht⟩) hS.2.2 dX6_between_158
            refine W_cut (α := Unit) (pcJ := 142) (nL := 15) (fun v => f_X6_between S x1 x2 x3 x4 = (f_X6_between_4 S w_5)) (fun v => []) (fun v => [(0, .ref o), (13, .int w_5)]) (fun v ls hf hl => ?_) (fun K_142 => ?_)
            · have hf : f_X6_between S x1 x2 x3 x4 = (f_X6_between_3 S w_5 (0 : Int32)) := hf
              have hl : lv_has ls 15 [(0, .ref o), (13, .int w_5)] := hl
              refine lv_iconst (v := 0) hx hb dX6_between_142 (by decide) ?_
              refine lv_goto (tgt := 147) hx hb dX6_between_143 (by decide) ?_
              exact K_147 (0 : Int32) ls hf (lv_sub hl [0, 1] rfl)
            refine lv_if_ne (tgt := 142) hx hb dX6_between_127 (by decide) (fun c_127 => ?_) (fun c_127 => ?_)
            · have hf : f_X6_between S x1 x2 x3 x4 = (f_X6_between_4 S w_5) := hf.trans (if_neg c_127)
              exact K_142 () ls hf (lv_sub hl [1, 0] rfl)
            · have hf : f_X6_between S x1 x2 x3 x4 = (f_X6_between_5 S x1 v11_4 v7_2 w_5) := hf.trans (if_pos c_127)
              refine lv_aload hx hb dX6_between_130 (lv_at hl 2 rfl) ?_
              refine lv_lload hx hb dX6_between_132 (lv_at hl 5 rfl) ?_
              refine lv_lload hx hb dX6_between_134 (lv_at hl 3 rfl) ?_
              refine vp_callSi (va_Run.run (va_runV (As := [.long v11_4, .long v7_2]) (rest := []) ⟨hx, hb, hml, hown, hts⟩ (c_X1_isBelow l ad (ckd S x1.toNatClampNeg) hkq_q2 v11_4 v7_2) (cwV 2 hts (gV iX1_isBelow (zin__r6 (.methodLink RX6 111 yX1_isBelow) (List.mem_of_getElem? (i := 14) rfl))) rfl rfl rfl (by decide +kernel) ⟨Nat.le_of_ble_eq_true rfl, Nat.le_of_ble_eq_true rfl⟩) ⟨fun a U g mk q => ⟨q.1, kU_bl q.2⟩, (kA_rv hk hkq_q2), fun U hU hW => ⟨rfl, kU_mvH hk hU hW⟩⟩ rfl rfl hl.1 rfl (lv_room (Nat.le_of_ble_eq_true rfl)) dX6_between_136 ⟨Nat.zero_le _, Nat.zero_le _⟩)) (fun r_136 hr_136 => ?_)
              subst hr_136
              refine lv_if_eq (tgt := 146) hx hb dX6_between_139 (by decide) (fun c_139 => ?_) (fun c_139 => ?_)
              · have hf : f_X6_between S x1 x2 x3 x4 = (f_X6_between_3 S w_5 (2 : Int32)) := hf.trans (if_pos c_139)
                refine lv_iconst (v := 2) hx hb dX6_between_146 (by decide) ?_
                exact K_147 (2 : Int32) ls hf (lv_sub hl [1, 0] rfl)
              · have hf : f_X6_between S x1 x2 x3 x4 = (f_X6_between_4 S w_5) := hf.trans (if_neg c_139)
                exact K_142 () ls hf (lv_sub hl [1, 0] rfl)
          refine W_cut (α := Unit) (pcJ := 115) (nL := 15) (fun v => f_X6_between S x1 x2 x3 x4 = (f_X6_between_7 S x1 v7_2 v9_3 v11_4)) (fun v => []) (fun v => [(0, .ref o), (6, .ref (ad (ckd S x1.toNatClampNeg))), (7, .long v7_2), (9, .long v9_3), (11, .long v11_4)]) (fun v ls hf hl => ?_) (fun K_115 => ?_)
          · have hf : f_X6_between S x1 x2 x3 x4 = (f_X6_between_6 S x1 v7_2 v9_3 v11_4 (0 : Int32)) := hf
            have hl : lv_has ls 15 [(0, .ref o), (6, .ref (ad (ckd S x1.toNatClampNeg))), (7, .long v7_2), (9, .long v9_3), (11, .long v11_4)] := hl
            refine lv_iconst (v := 0) hx hb dX6_between_115 (by decide) ?_
            exact K_116 (0 : Int32) ls hf (lv_sub hl [0, 1, 2, 3, 4] rfl)
          refine lv_if_eq (tgt := 115) hx hb dX6_between_96 (by decide) (fun c_96 => ?_) (fun c_96 => ?_)
          · have hf : f_X6_between S x1 x2 x3 x4 = (f_X6_between_7 S x1 v7_2 v9_3 v11_4) := hf.trans (if_pos c_96)
            exact K_115 () ls hf (lv_sub hl [5, 3, 2, 1, 0] rfl)
          · have hf : f_X6_between S x1 x2 x3 x4 = (f_X6_between_8 S x1 v7_2 v11_4 v9_3) := hf.trans (if_neg c_96)
            refine lv_aload hx hb dX6_between_99 (lv_at hl 3 rfl) ?_
            refine lv_lload hx hb dX6_between_101 (lv_at hl 2 rfl) ?_
            refine lv_lload hx hb dX6_between_103 (lv_at hl 0 rfl) ?_
            refine vp_callSi (va_Run.run (va_runV (As := [.long v7_2, .long v11_4]) (rest := []) ⟨hx, hb, hml, hown, hts⟩ (c_X1_atMost l ad (ckd S x1.toNatClampNeg) hkq_q2 v7_2 v11_4) (cwV 2 hts (gV iX1_atMost (zin__r6 (.methodLink RX6 107 yX1_atMost) (List.mem_of_getElem? (i := 13) rfl))) rfl rfl rfl (by decide +kernel) ⟨Nat.le_of_ble_eq_true rfl, Nat.le_of_ble_eq_true rfl⟩) ⟨fun a U g mk q => ⟨q.1, kU_bl q.2⟩, (kA_rv hk hkq_q2), fun U hU hW => ⟨rfl, kU_mvH hk hU hW⟩⟩ rfl rfl hl.1 rfl (lv_room (Nat.le_of_ble_eq_true rfl)) dX6_between_105 ⟨Nat.zero_le _, Nat.zero_le _⟩)) (fun r_105 hr_105 => ?_)
            subst hr_105
            refine lv_if_eq (tgt := 115) hx hb dX6_between_108 (by decide) (fun c_108 => ?_) (fun c_108 => ?_)
            · have hf : f_X6_between S x1 x2 x3 x4 = (f_X6_between_7 S x1 v7_2 v9_3 v11_4) := hf.trans (if_pos c_108)
              exact K_115 () ls hf (lv_sub hl [5, 3, 2, 1, 0] rfl)
            · have hf : f_X6_between S x1 x2 x3 x4 = (f_X6_between_6 S x1 v7_2 v9_3 v11_4 (1 : Int32)) := hf.trans (if_neg c_108)
              refine lv_iconst (v := 1) hx hb dX6_between_111 (by decide) ?_
              refine lv_goto (tgt := 116) hx hb dX6_between_112 (by decide) ?_
              exact K_116 (1 : Int32) ls hf (lv_sub hl [5, 3, 2, 1, 0] rfl)
        · have hf : f_X6_between S x1 x2 x3 x4 = (f_X6_between_2 S) := hf.trans (if_pos c_43)
          exact K_46 () ls hf (lv_sub hl [1] rfl)
  · rw [if_neg c_2] at hr_2
    subst hr_2
    have hf : f_X6_between S x1 x2 x3 x4 = (f_X6_between_1 (f_X6_refuse S (1 : Int32))) := hf.trans (if_neg c_2)
    refine lv_astoreN (lv' := [(5, .null), (0, .ref o), (1, .int x1), (2, .int x2), (3, .int x3), (4, .int x4)]) hx hb dX6_between_5 hl (by decide) rfl (fun ls hl => ?_)
    refine lv_aloadN hx hb dX6_between_7 (lv_at hl 0 rfl) ?_
    refine lv_ifnonnullN hx hb dX6_between_9 ?_
    refine lv_aload_n hx hb dX6_between_12 rfl (lv_at hl 1 rfl) ?_
    refine lv_iconst (v := 1) hx hb dX6_between_13 (by decide) ?_
    have hFc := va_freeAll hD hS hA
    refine va_calli (va_runV (As := [.int (1 : Int32)]) (rest := []) ⟨hx, hb, hml, hown, hts⟩ (c_X6_refuse l dC dI ad o rw so ba ma cR cJ s.heap.size S (1 : Int32)) (cwV 1 hts (gV iX6_refuse (zin__r2 (.methodLink RX6 32 yX6_refuse) (List.mem_of_getElem? (i := 14) rfl))) rfl rfl rfl (by decide +kernel) ⟨Nat.le_of_ble_eq_true rfl, Nat.le_of_ble_eq_true rfl⟩) ⟨fun a U g mk q => ⟨q.1, cB_bl q.2⟩, cW_rv hw, fun U hU hW => ⟨rfl, cB_mv hw hD (kA_in hkA hS hFc) hU hW⟩⟩ rfl rfl hl.1 rfl (lv_room (Nat.le_of_ble_eq_true rfl)) dX6_between_14 ⟨Nat.zero_le _, Nat.zero_le _⟩) hS (fun q _ h => hFc q h) hFc (fun r_14 S_8 t H1 locs ht hvm hw1 hB hz1 hk1 hS => ?_)
    obtain ⟨hP, -, hD1⟩ := hB
    rw [ht] at hP
    have hD := hD1.weaken (fun k q _ h => hFc q.1 h)
    generalize H1 = H at hP hS ⊢
    have hw : cH dC dI ad o rw so ba ma cR cJ S_8 s H := ⟨hP, hK⟩
    have hk := kA_at hkA hS
    have hf : f_X6_between S x1 x2 x3 x4 = (r_14, S_8) := hf.trans (congrArg (fun z => (f_X6_between_1 z)) hw1.symm)
    exact W.iret hx hb hr (fun t ht hW => ⟨⟨_, S_8, rfl, hf.symm, by rw [ht]; exact hP, va_K.moved hW.alike hK, hD⟩, hS.F ht⟩) hS.2.2 dX6_between_17
def f_X6_total_1 (p9 : Int32 × CSt) : Int32 × CSt := (p9.1, p9.2)
def f_X6_total_2 (S : CSt) : Int32 × CSt := (f_X6_total_1 (f_X6_refuse S (2 : Int32)))
def f_X6_total_3 (S : CSt) (w_4 : Int32) : Int32 × CSt := (f_X6_total_1 (f_X6_answer S w_4))
def f_X6_total_4 (v5_2 : Int64) (v7_3 : Int64) (S : CSt) : Int32 × CSt := if v5_2 ≤ v7_3 then (f_X6_total_3 S (0 : Int32)) else (f_X6_total_3 S (1 : Int32))
def f_X6_total_5 (v7_3 : Int64) (v5_2 : Int64) (S : CSt) : Int32 × CSt := if v7_3 ≤ v5_2 then (f_X6_total_4 v5_2 v7_3 S) else (f_X6_total_3 S (-1 : Int32))
def f_X6_total_6 (S : CSt) (x1 : Int32) (x3 : Int32) (x2 : Int32) : Int32 × CSt := if (f_X3_has (ckd S x1.toNatClampNeg) (cln S x1.toNatClampNeg) (cbt S x1.toNatClampNeg) x3) = 0 then (f_X6_total_2 S) else (f_X6_total_5 (f_X1_totalRank (ckd S x1.toNatClampNeg) ((cbt S x1.toNatClampNeg) x3.toNatClampNeg)) (f_X1_totalRank (ckd S x1.toNatClampNeg) ((cbt S x1.toNatClampNeg) x2.toNatClampNeg)) S)
def f_X6_total_7 (S : CSt) (x1 : Int32) (x2 : Int32) (x3 : Int32) : Int32 × CSt := if (f_X3_has (ckd S x1.toNatClampNeg) (cln S x1.toNatClampNeg) (cbt S x1.toNatClampNeg) x2) = 0 then (f_X6_total_2 S) else (f_X6_total_6 S x1 x3 x2)
def f_X6_total_8 (x1 : Int32) (S : CSt) (x2 : Int32) (x3 : Int32) : Int32 × CSt := if 0 ≤ x1 ∧ x1 < nI (cn S) then (f_X6_total_7 S x1 x2 x3) else (f_X6_total_1 (f_X6_refuse S (1 : Int32)))
def f_X6_total (S : CSt) (x1 : Int32) (x2 : Int32) (x3 : Int32) : Int32 × CSt := (f_X6_total_8 x1 S x2 x3)
def zX6_total : List Cond := .code yX6_total cX6_total 9 (some .int) :: zall
theorem iX6_total : MWv RX6 yX6_total (.code yX6_total cX6_total 9 (some .int)) := ⟨(zin__r5 (.instanceMethod yX6_total) (List.mem_of_getElem? (i := 22) rfl)), (zin__r5 (.selects RX6 yX6_total yX6_total) (List.mem_of_getElem? (i := 23) rfl)), (zin__r1 (.initialized RX6) (List.mem_of_getElem? (i := 2) rfl)), (zin__r6 (.code yX6_total cX6_total 9 (some .int)) (List.mem_of_getElem? (i := 0) rfl))⟩
set_option maxHeartbeats 4000000 in
set_option maxRecDepth 100000 in
theorem c_X6_total (l : Launch) (dC : Nat → ClassId) (dI : Nat → Nat → Nat) (ad : Nat → Nat) (o rw so ba ma : Nat) (cR cJ : ClassId) (sz : Nat) (S : CSt) (x1 : Int32) (x2 : Int32) (x3 : Int32) (hI : cInv S) : Met l yX6_total zX6_total ({ frames := 2, cells := 0, slots := 0, locals := 44 }) (va_Pc [.ref o, .int x1, .int x2, .int x3] (fun U => cB dC dI ad o rw so ba ma cR cJ sz S U)) (va_Qi (fun r9 S9 => (r9, S9) = f_X6_total S x1 x2 x3) (cE dC dI ad o rw so ba ma cR cJ (va_A (cWs ad o rw so ba ma cR cJ S) sz)) (va_A (cWs ad o rw so ba ma cR cJ S) sz)) 0 0 (va_A (cWs ad o rw so ba ma cR cJ S) sz) := by
  refine Met.ofW (cc := cX6_total) (maxL := 9) (ret := (some .int)) (by decide) rfl ?_
  intro p e s m args below meth c s₁ B hml hv
  obtain ⟨rfl, hsz, hP, hK, hD0, hkA⟩ := hv
  have hx := B.exec
  have hb := B.bytes
  have hr := B.returns
  have hts : ∀ w ∈ zall, w.before _ s = true := fun w h => atoms_spec (ws := zX6_total) B.pre w (List.mem_cons_of_mem _ h)
  have hown : s.vm.findClass RX6 = some m.cls := findClass_of_methodNamed B.named
  have hlocks := B.notSynchronized
  subst hsz
  have hD := hD0.self (sz := s.heap.size)
  generalize hAe : va_A (cWs ad o rw so ba ma cR cJ S) s.heap.size = A at hD hkA ⊢
  have hA : ∀ q : Nat, s.heap.size ≤ q → A q := fun q h => by rw [← hAe]; exact Or.inr h
  have hS : va_S A s.heap s.heap [] := va_S.rf
  have hw : cH dC dI ad o rw so ba ma cR cJ S s s.heap := ⟨hP, hK⟩
  have hk := kA_at hkA hS
  have hl := lv_entry ([.ref o, .int x1, .int x2, .int x3]) (n := 9) (Nat.le_of_ble_eq_true rfl)
  rw [lg_entry_eq]
  generalize (lg_sl ([.ref o, .int x1, .int x2, .int x3]) ++ List.replicate (9 - (lg_sl ([.ref o, .int x1, .int x2, .int x3])).length) Slot.unset).toArray = ls at hl ⊢
  have hl : lv_has ls 9 [(0, .ref o), (1, .int x1), (2, .int x2), (3, .int x3)] := hl
  have hf : f_X6_total S x1 x2 x3 = (f_X6_total_8 x1 S x2 x3) := rfl
  refine lv_aload_n hx hb dX6_total_0 rfl (lv_at hl 0 rfl) ?_
  refine lv_iload_n hx hb dX6_total_1 rfl (lv_at hl 1 rfl) ?_
  refine va_csq (va_Run.run (va_runV (As := [.int x1]) (rest := []) ⟨hx, hb, hml, hown, hts⟩ (c_X6_rowAt l dC dI ad o rw so ba ma cR cJ S x1 hI) (cwV 1 hts (gV iX6_rowAt (zin__r3 (.methodLink RX6 51 yX6_rowAt) (List.mem_of_getElem? (i := 9) rfl))) rfl rfl rfl (by decide +kernel) ⟨Nat.le_of_ble_eq_true rfl, Nat.le_of_ble_eq_true rfl⟩) ⟨fun a U g mk q => ⟨q.1, cW_bl q.2⟩, cW_rv hw, fun U hU hW => ⟨rfl, cW_mv hw hU hW⟩⟩ rfl rfl hl.1 rfl (lv_room (Nat.le_of_ble_eq_true rfl)) dX6_total_2 ⟨Nat.zero_le _, Nat.zero_le _⟩)) (fun r_2 hr_2 => ?_)
  rcases Decidable.em (0 ≤ x1 ∧ x1 < nI (cn S)) with c_2 | c_2
  · rw [if_pos c_2] at hr_2
    subst hr_2
    have hj_q2 : x1.toNatClampNeg < cn S := cRow_lt hI c_2
    have hr_q2 := rH_of hts hw hj_q2
    have hn_q2 : cln S x1.toNatClampNeg ≤ 500 := (hI.2 _ hj_q2).2.2
    have hkq_q2 : ckd S x1.toNatClampNeg < 2 := (hI.2 _ hj_q2).1
    have hf : f_X6_total S x1 x2 x3 = (f_X6_total_7 S x1 x2 x3) := hf.trans (if_pos c_2)
    refine lv_astore (lv' := [(4, .ref (cro S x1.toNatClampNeg)), (0, .ref o), (1, .int x1), (2, .int x2), (3, .int x3)]) hx hb dX6_total_5 hl (by decide) rfl (fun ls hl => ?_)
    refine lv_aload hx hb dX6_total_7 (lv_at hl 0 rfl) ?_
    refine lv_ifnonnull (tgt := 18) hx hb dX6_total_9 (by decide) ?_
    refine lv_aload hx hb dX6_total_18 (lv_at hl 0 rfl) ?_
    refine lv_iload_n hx hb dX6_total_20 rfl (lv_at hl 3 rfl) ?_
    refine vp_callSi (va_Run.run (va_runV (As := [.int x2]) (rest := []) ⟨hx, hb, hml, hown, hts⟩ (c_X3_has l ad (cro S x1.toNatClampNeg) (cna S x1.toNatClampNeg) (cln S x1.toNatClampNeg) (cbt S x1.toNatClampNeg) (ckd S x1.toNatClampNeg) hkq_q2 x2) (cwV 1 hts (gV iX3_has (zin__r3 (.methodLink RX6 55 yX3_has) (List.mem_of_getElem? (i := 13) rfl))) rfl rfl rfl (by decide +kernel) ⟨Nat.le_of_ble_eq_true rfl, Nat.le_of_ble_eq_true rfl⟩) ⟨fun a U g mk q => ⟨q.1, kU_bl q.2.1, rU_bl q.2.2⟩, (rU_rv hr_q2), fun U hU hW => ⟨rfl, ⟨kU_mvH hk hU hW, rU_mvH hr_q2 hU hW⟩⟩⟩ rfl rfl hl.1 rfl (lv_room (Nat.le_of_ble_eq_true rfl)) dX6_total_21 ⟨Nat.zero_le _, Nat.zero_le _⟩)) (fun r_21 hr_21 => ?_)
    subst hr_21
    refine W_cut (α := Unit) (pcJ := 36) (nL := 9) (fun v => f_X6_total S x1 x2 x3 = (f_X6_total_2 S)) (fun v => []) (fun v => [(0, .ref o)]) (fun v ls hf hl => ?_) (fun K_36 => ?_)
    · have hf : f_X6_total S x1 x2 x3 = (f_X6_total_1 (f_X6_refuse S (2 : Int32))) := hf
      have hl : lv_has ls 9 [(0, .ref o)] := hl
      refine lv_aload_n hx hb dX6_total_36 rfl (lv_at hl 0 rfl) ?_
      refine lv_iconst (v := 2) hx hb dX6_total_37 (by decide) ?_
      have hFc := va_freeAll hD hS hA
      refine va_calli (va_runV (As := [.int (2 : Int32)]) (rest := []) ⟨hx, hb, hml, hown, hts⟩ (c_X6_refuse l dC dI ad o rw so ba ma cR cJ s.heap.size S (2 : Int32)) (cwV 1 hts (gV iX6_refuse (zin__r2 (.methodLink RX6 32 yX6_refuse) (List.mem_of_getElem? (i := 14) rfl))) rfl rfl rfl (by decide +kernel) ⟨Nat.le_of_ble_eq_true rfl, Nat.le_of_ble_eq_true rfl⟩) ⟨fun a U g mk q => ⟨q.1, cB_bl q.2⟩, cW_rv hw, fun U hU hW => ⟨rfl, cB_mv hw hD (kA_in hkA hS hFc) hU hW⟩⟩ rfl rfl hl.1 rfl (lv_room (Nat.le_of_ble_eq_true rfl)) dX6_total_38 ⟨Nat.zero_le _, Nat.zero_le _⟩) hS (fun q _ h => hFc q h) hFc (fun r_38 S_1 t H1 locs ht hvm hw1 hB hz1 hk1 hS => ?_)
      obtain ⟨hP, -, hD1⟩ := hB
      rw [ht] at hP
      have hD := hD1.weaken (fun k q _ h => hFc q.1 h)
      generalize H1 = H at hP hS ⊢
      have hw : cH dC dI ad o rw so ba ma cR cJ S_1 s H := ⟨hP, hK⟩
      have hk := kA_at hkA hS
      have hf : f_X6_total S x1 x2 x3 = (r_38, S_1) := hf.trans (congrArg (fun z => (f_X6_total_1 z)) hw1.symm)
      exact W.iret hx hb hr (fun t ht hW => ⟨⟨_, S_1, rfl, hf.symm, by rw [ht]; exact hP, va_K.moved hW.alike hK, hD⟩, hS.F ht⟩) hS.2.2 dX6_total_41
    refine lv_if_eq (tgt := 36) hx hb dX6_total_24 (by decide) (fun c_24 => ?_) (fun c_24 => ?_)
    · have hf : f_X6_total S x1 x2 x3 = (f_X6_total_2 S) := hf.trans (if_pos c_24)
      exact K_36 () ls hf (lv_sub hl [1] rfl)
    · have hf : f_X6_total S x1 x2 x3 = (f_X6_total_6 S x1 x3 x2) := hf.trans (if_neg c_24)
      refine lv_aload hx hb dX6_total_27 (lv_at hl 0 rfl) ?_
      refine lv_iload_n hx hb dX6_total_29 rfl (lv_at hl 4 rfl) ?_
      refine vp_callSi (va_Run.run (va_runV (As := [.int x3]) (rest := []) ⟨hx, hb, hml, hown, hts⟩ (c_X3_has l ad (cro S x1.toNatClampNeg) (cna S x1.toNatClampNeg) (cln S x1.toNatClampNeg) (cbt S x1.toNatClampNeg) (ckd S x1.toNatClampNeg) hkq_q2 x3) (cwV 1 hts (gV iX3_has (zin__r3 (.methodLink RX6 55 yX3_has) (List.mem_of_getElem? (i := 13) rfl))) rfl rfl rfl (by decide +kernel) ⟨Nat.le_of_ble_eq_true rfl, Nat.le_of_ble_eq_true rfl⟩) ⟨fun a U g mk q => ⟨q.1, kU_bl q.2.1, rU_bl q.2.2⟩, (rU_rv hr_q2), fun U hU hW => ⟨rfl, ⟨kU_mvH hk hU hW, rU_mvH hr_q2 hU hW⟩⟩⟩ rfl rfl hl.1 rfl (lv_room (Nat.le_of_ble_eq_true rfl)) dX6_total_30 ⟨Nat.zero_le _, Nat.zero_le _⟩)) (fun r_30 hr_30 => ?_)
      subst hr_30
      refine lv_if_ne (tgt := 42) hx hb dX6_total_33 (by decide) (fun c_33 => ?_) (fun c_33 => ?_)
      · have hf : f_X6_total S x1 x2 x3 = (f_X6_total_5 (f_X1_totalRank (ckd S x1.toNatClampNeg) ((cbt S x1.toNatClampNeg) x3.toNatClampNeg)) (f_X1_totalRank (ckd S x1.toNatClampNeg) ((cbt S x1.toNatClampNeg) x2.toNatClampNeg)) S) := hf.trans (if_neg c_33)
        refine lv_aload hx hb dX6_total_42 (lv_at hl 0 rfl) ?_
        refine gf_H hx hb hr_q2.2.1 hown (hts _ (zin__r3 (.fieldLink RX6 59 "ReckonBench$Row" "kind" "LReckonBench$Kind;") (List.mem_of_getElem? (i := 8) rfl))) (fun _ h9 => h9) dX6_total_44 ?_
        refine lv_aload hx hb dX6_total_47 (lv_at hl 0 rfl) ?_
        refine gf_H hx hb hr_q2.2.2.1 hown (hts _ (zin__r5 (.fieldLink RX6 80 "ReckonBench$Row" "numbers" "[J") (List.mem_of_getElem? (i := 4) rfl))) (fun _ h9 => h9) dX6_total_49 ?_
        refine lv_iload_n hx hb dX6_total_52 rfl (lv_at hl 3 rfl) ?_
        refine tl_H hx hb hr_q2.2.2.2 (has_in hn_q2 c_24) (v := .long ((cbt S x1.toNatClampNeg) x2.toNatClampNeg)) rfl dX6_total_53 ?_
        refine vp_callSl (va_Run.run (va_runV (As := [.long ((cbt S x1.toNatClampNeg) x2.toNatClampNeg)]) (rest := []) ⟨hx, hb, hml, hown, hts⟩ (c_X1_totalRank l ad (ckd S x1.toNatClampNeg) hkq_q2 ((cbt S x1.toNatClampNeg) x2.toNatClampNeg)) (cwV 1 hts (gV iX1_totalRank (zin__r6 (.methodLink RX6 114 yX1_totalRank) (List.mem_of_getElem? (i := 1) rfl))) rfl rfl rfl (by decide +kernel) ⟨Nat.le_of_ble_eq_true rfl, Nat.le_of_ble_eq_true rfl⟩) ⟨fun a U g mk q => ⟨q.1, kU_bl q.2⟩, (kA_rv hk hkq_q2), fun U hU hW => ⟨rfl, kU_mvH hk hU hW⟩⟩ rfl rfl hl.1 rfl (lv_room (Nat.le_of_ble_eq_true rfl)) dX6_total_54 ⟨Nat.zero_le _, Nat.zero_le _⟩)) (fun r_54 hr_54 => ?_)
        subst hr_54
        refine lv_topl (fun v5_2 e_v5_2 => ?_)
        have hf : f_X6_total S x1 x2 x3 = (f_X6_total_5 (f_X1_totalRank (ckd S x1.toNatClampNeg) ((cbt S x1.toNatClampNeg) x3.toNatClampNeg)) v5_2 S) := hf.trans (congrArg (fun z => (f_X6_total_5 (f_X1_totalRank (ckd S x1.toNatClampNeg) ((cbt S x1.toNatClampNeg) x3.toNatClampNeg)) z S)) e_v5_2.symm)
        refine lv_lstore (lv' := [(5, .long v5_2), (4, .ref (cro S x1.toNatClampNeg)), (0, .ref o), (1, .int x1), (2, .int x2), (3, .int x3)]) hx hb dX6_total_57 hl (by decide) rfl (fun ls hl => ?_)
        refine lv_aload hx hb dX6_total_59 (lv_at hl 1 rfl) ?_
        refine gf_H hx hb hr_q2.2.1 hown (hts _ (zin__r3 (.fieldLink RX6 59 "ReckonBench$Row" "kind" "LReckonBench$Kind;") (List.mem_of_getElem? (i := 8) rfl))) (fun _ h9 => h9) dX6_total_61 ?_
        refine lv_aload hx hb dX6_total_64 (lv_at hl 1 rfl) ?_
        refine gf_H hx hb hr_q2.2.2.1 hown (hts _ (zin__r5 (.fieldLink RX6 80 "ReckonBench$Row" "numbers" "[J") (List.mem_of_getElem? (i := 4) rfl))) (fun _ h9 => h9) dX6_total_66 ?_
        refine lv_iload_n hx hb dX6_total_69 rfl (lv_at hl 5 rfl) ?_
        refine tl_H hx hb hr_q2.2.2.2 (has_in hn_q2 c_33) (v := .long ((cbt S x1.toNatClampNeg) x3.toNatClampNeg)) rfl dX6_total_70 ?_
        refine vp_callSl (va_Run.run (va_runV (As := [.long ((cbt S x1.toNatClampNeg) x3.toNatClampNeg)]) (rest := []) ⟨hx, hb, hml, hown, hts⟩ (c_X1_totalRank l ad (ckd S x1.toNatClampNeg) hkq_q2 ((cbt S x1.toNatClampNeg) x3.toNatClampNeg)) (cwV 1 hts (gV iX1_totalRank (zin__r6 (.methodLink RX6 114 yX1_totalRank) (List.mem_of_getElem? (i := 1) rfl))) rfl rfl rfl (by decide +kernel) ⟨Nat.le_of_ble_eq_true rfl, Nat.le_of_ble_eq_true rfl⟩) ⟨fun a U g mk q => ⟨q.1, kU_bl q.2⟩, (kA_rv hk hkq_q2), fun U hU hW => ⟨rfl, kU_mvH hk hU hW⟩⟩ rfl rfl hl.1 rfl (lv_room (Nat.le_of_ble_eq_true rfl)) dX6_total_71 ⟨Nat.zero_le _, Nat.zero_le _⟩)) (fun r_71 hr_71 => ?_)
        subst hr_71
        refine lv_topl (fun v7_3 e_v7_3 => ?_)
        have hf : f_X6_total S x1 x2 x3 = (f_X6_total_5 v7_3 v5_2 S) := hf.trans (congrArg (fun z => (f_X6_total_5 z v5_2 S)) e_v7_3.symm)
        refine lv_lstore (lv' := [(7, .long v7_3), (5, .long v5_2), (4, .ref (cro S x1.toNatClampNeg)), (0, .ref o), (1, .int x1), (2, .int x2), (3, .int x3)]) hx hb dX6_total_74 hl (by decide) rfl (fun ls hl => ?_)
        refine lv_aload_n hx hb dX6_total_76 rfl (lv_at hl 3 rfl) ?_
        refine lv_lload hx hb dX6_total_77 (lv_at hl 1 rfl) ?_
        refine lv_lload hx hb dX6_total_79 (lv_at hl 0 rfl) ?_
        refine W.lcmp hx hb dX6_total_81 ?_
        refine W_cut (α := Int32) (pcJ := 102) (nL := 9) (fun v => f_X6_total S x1 x2 x3 = (f_X6_total_3 S v)) (fun v => [.int v, .ref o]) (fun v => []) (fun w_4 ls hf hl => ?_) (fun K_102 => ?_)
        · have hf : f_X6_total S x1 x2 x3 = (f_X6_total_1 (f_X6_answer S w_4)) := hf
          have hl : lv_has ls 9 [] := hl
          have hFc := va_freeAll hD hS hA
          refine va_calli (va_runV (As := [.int w_4]) (rest := []) ⟨hx, hb, hml, hown, hts⟩ (c_X6_answer l dC dI ad o rw so ba ma cR cJ s.heap.size S w_4) (cwV 1 hts (gV iX6_answer (zin__r3 (.methodLink RX6 48 yX6_answer) (List.mem_of_getElem? (i := 0) rfl))) rfl rfl rfl (by decide +kernel) ⟨Nat.le_of_ble_eq_true rfl, Nat.le_of_ble_eq_true rfl⟩) ⟨fun a U g mk q => ⟨q.1, cB_bl q.2⟩, cW_rv hw, fun U hU hW => ⟨rfl, cB_mv hw hD (kA_in hkA hS hFc) hU hW⟩⟩ rfl rfl hl.1 rfl (lv_room (Nat.le_of_ble_eq_true rfl)) dX6_total_102 ⟨Nat.zero_le _, Nat.zero_le _⟩) hS (fun q _ h => hFc q h) hFc (fun r_102 S_5 t H1 locs ht hvm hw1 hB hz1 hk1 hS => ?_)
          obtain ⟨hP, -, hD1⟩ := hB
          rw [ht] at hP
          have hD := hD1.weaken (fun k q _ h => hFc q.1 h)
          generalize H1 = H at hP hS ⊢
          have hw : cH dC dI ad o rw so ba ma cR cJ S_5 s H := ⟨hP, hK⟩
          have hk := kA_at hkA hS
          have hf : f_X6_total S x1 x2 x3 = (r_102, S_5) := hf.trans (congrArg (fun z => (f_X6_total_1 z)) hw1.symm)
          exact W.iret hx hb hr (fun t ht hW => ⟨⟨_, S_5, rfl, hf.symm, by rw [ht]; exact hP, va_K.moved hW.alike hK, hD⟩, hS.F ht⟩) hS.2.2 dX6_total_105
        refine lv_if_ge (tgt := 89) hx hb dX6_total_82 (by decide) (fun c_82 => ?_) (fun c_82 => ?_)
        · have c_82 : v7_3 ≤ v5_2 := (lg_cmp_ge v5_2 v7_3).mp c_82
          have hf : f_X6_total S x1 x2 x3 = (f_X6_total_4 v5_2 v7_3 S) := hf.trans (if_pos c_82)
          refine lv_lload hx hb dX6_total_89 (lv_at hl 1 rfl) ?_
          refine lv_lload hx hb dX6_total_91 (lv_at hl 0 rfl) ?_
          refine W.lcmp hx hb dX6_total_93 ?_
          refine lv_if_le (tgt := 101) hx hb dX6_total_94 (by decide) (fun c_94 => ?_) (fun c_94 => ?_)
          · have c_94 : v5_2 ≤ v7_3 := (lg_cmp_le v5_2 v7_3).mp c_94
            have hf : f_X6_total S x1 x2 x3 = (f_X6_total_3 S (0 : Int32)) := hf.trans (if_pos c_94)
            refine lv_iconst (v := 0) hx hb dX6_total_101 (by decide) ?_
            exact K_102 (0 : Int32) ls hf (lv_sub hl [] rfl)
          · have c_94 : ¬ (v5_2 ≤ v7_3) := fun h9 => c_94 ((lg_cmp_le v5_2 v7_3).mpr h9)
            have hf : f_X6_total S x1 x2 x3 = (f_X6_total_3 S (1 : Int32)) := hf.trans (if_neg c_94)
            refine lv_iconst (v := 1) hx hb dX6_total_97 (by decide) ?_
            refine lv_goto (tgt := 102) hx hb dX6_total_98 (by decide) ?_
            exact K_102 (1 : Int32) ls hf (lv_sub hl [] rfl)
        · have c_82 : ¬ (v7_3 ≤ v5_2) := fun h9 => c_82 ((lg_cmp_ge v5_2 v7_3).mpr h9)
          have hf : f_X6_total S x1 x2 x3 = (f_X6_total_3 S (-1 : Int32)) := hf.trans (if_neg c_82)
          refine lv_iconst (v := -1) hx hb dX6_total_85 (by decide) ?_
          refine lv_goto (tgt := 102) hx hb dX6_total_86 (by decide) ?_
          exact K_102 (-1 : Int32) ls hf (lv_sub hl [] rfl)
      · have hf : f_X6_total S x1 x2 x3 = (f_X6_total_2 S) := hf.trans (if_pos c_33)
        exact K_36 () ls hf (lv_sub hl [1] rfl)
  · rw [if_neg c_2] at hr_2
    subst hr_2
    have hf : f_X6_total S x1 x2 x3 = (f_X6_total_1 (f_X6_refuse S (1 : Int32))) := hf.trans (if_neg c_2)
    refine lv_astoreN (lv' := [(4, .null), (0, .ref o), (1, .int x1), (2, .int x2), (3, .int x3)]) hx hb dX6_total_5 hl (by decide) rfl (fun ls hl => ?_)
    refine lv_aloadN hx hb dX6_total_7 (lv_at hl 0 rfl) ?_
    refine lv_ifnonnullN hx hb dX6_total_9 ?_
    refine lv_aload_n hx hb dX6_total_12 rfl (lv_at hl 1 rfl) ?_
    refine lv_iconst (v := 1) hx hb dX6_total_13 (by decide) ?_
    have hFc := va_freeAll hD hS hA
    refine va_calli (va_runV (As := [.int (1 : Int32)]) (rest := []) ⟨hx, hb, hml, hown, hts⟩ (c_X6_refuse l dC dI ad o rw so ba ma cR cJ s.heap.size S (1 : Int32)) (cwV 1 hts (gV iX6_refuse (zin__r2 (.methodLink RX6 32 yX6_refuse) (List.mem_of_getElem? (i := 14) rfl))) rfl rfl rfl (by decide +kernel) ⟨Nat.le_of_ble_eq_true rfl, Nat.le_of_ble_eq_true rfl⟩) ⟨fun a U g mk q => ⟨q.1, cB_bl q.2⟩, cW_rv hw, fun U hU hW => ⟨rfl, cB_mv hw hD (kA_in hkA hS hFc) hU hW⟩⟩ rfl rfl hl.1 rfl (lv_room (Nat.le_of_ble_eq_true rfl)) dX6_total_14 ⟨Nat.zero_le _, Nat.zero_le _⟩) hS (fun q _ h => hFc q h) hFc (fun r_14 S_6 t H1 locs ht hvm hw1 hB hz1 hk1 hS => ?_)
    obtain ⟨hP, -, hD1⟩ := hB
    rw [ht] at hP
    have hD := hD1.weaken (fun k q _ h => hFc q.1 h)
    generalize H1 = H at hP hS ⊢
    have hw : cH dC dI ad o rw so ba ma cR cJ S_6 s H := ⟨hP, hK⟩
    have hk := kA_at hkA hS
    have hf : f_X6_total S x1 x2 x3 = (r_14, S_6) := hf.trans (congrArg (fun z => (f_X6_total_1 z)) hw1.symm)
    exact W.iret hx hb hr (fun t ht hW => ⟨⟨_, S_6, rfl, hf.symm, by rw [ht]; exact hP, va_K.moved hW.alike hK, hD⟩, hS.F ht⟩) hS.2.2 dX6_total_17
def f_X6_act_1 (p9 : Int32 × CSt) : Int32 × CSt := (p9.1, p9.2)
def f_X6_act_2 (S : CSt) : Int32 × CSt := (f_X6_act_1 (f_X6_refuse S (2 : Int32)))
def f_X6_act_3 (S : CSt) (x1 : Int32) (p9 : Int32 × (Nat → Int64)) : Int32 × CSt := (f_X6_act_1 (f_X6_answer (cset_bt S x1.toNatClampNeg p9.2) p9.1))
def f_X6_act_4 (S : CSt) (x1 : Int32) (x5 : Int32) (x2 : Int32) (x3 : Int32) (x4 : Int32) : Int32 × CSt := if (f_X3_has (ckd S x1.toNatClampNeg) (cln S x1.toNatClampNeg) (cbt S x1.toNatClampNeg) x5) = 0 then (f_X6_act_2 S) else (f_X6_act_3 S x1 (f_X3_put (cbt S x1.toNatClampNeg) (ckd S x1.toNatClampNeg) x5 (f_X2_acted (ckd S x1.toNatClampNeg) x2 ((cbt S x1.toNatClampNeg) x3.toNatClampNeg) ((cbt S x1.toNatClampNeg) x4.toNatClampNeg))))
def f_X6_act_5 (S : CSt) (x1 : Int32) (x4 : Int32) (x5 : Int32) (x2 : Int32) (x3 : Int32) : Int32 × CSt := if (f_X3_has (ckd S x1.toNatClampNeg) (cln S x1.toNatClampNeg) (cbt S x1.toNatClampNeg) x4) = 0 then (f_X6_act_2 S) else (f_X6_act_4 S x1 x5 x2 x3 x4)
def f_X6_act_6 (S : CSt) (x1 : Int32) (x3 : Int32) (x4 : Int32) (x5 : Int32) (x2 : Int32) : Int32 × CSt := if (f_X3_has (ckd S x1.toNatClampNeg) (cln S x1.toNatClampNeg) (cbt S x1.toNatClampNeg) x3) = 0 then (f_X6_act_2 S) else (f_X6_act_5 S x1 x4 x5 x2 x3)
def f_X6_act_7 (x2 : Int32) (S : CSt) (x1 : Int32) (x3 : Int32) (x4 : Int32) (x5 : Int32) : Int32 × CSt := if (13 : Int32) < x2 then (f_X6_act_2 S) else (f_X6_act_6 S x1 x3 x4 x5 x2)
def f_X6_act_8 (x2 : Int32) (S : CSt) (x1 : Int32) (x3 : Int32) (x4 : Int32) (x5 : Int32) : Int32 × CSt := if x2 < 0 then (f_X6_act_2 S) else (f_X6_act_7 x2 S x1 x3 x4 x5)
def f_X6_act_9 (x1 : Int32) (S : CSt) (x2 : Int32) (x3 : Int32) (x4 : Int32) (x5 : Int32) : Int32 × CSt := if 0 ≤ x1 ∧ x1 < nI (cn S) then (f_X6_act_8 x2 S x1 x3 x4 x5) else (f_X6_act_1 (f_X6_refuse S (1 : Int32)))
def f_X6_act (S : CSt) (x1 : Int32) (x2 : Int32) (x3 : Int32) (x4 : Int32) (x5 : Int32) : Int32 × CSt := (f_X6_act_9 x1 S x2 x3 x4 x5)
def zX6_act : List Cond := .code yX6_act cX6_act 9 (some .int) :: zall
theorem iX6_act : MWv RX6 yX6_act (.code yX6_act cX6_act 9 (some .int)) := ⟨(zin__r7 (.instanceMethod yX6_act) (List.mem_of_getElem? (i := 7) rfl)), (zin__r7 (.selects RX6 yX6_act yX6_act) (List.mem_of_getElem? (i := 8) rfl)), (zin__r1 (.initialized RX6) (List.mem_of_getElem? (i := 2) rfl)), (zin__r7 (.code yX6_act cX6_act 9 (some .int)) (List.mem_of_getElem? (i := 9) rfl))⟩
set_option maxHeartbeats 4000000 in
set_option maxRecDepth 100000 in
theorem c_X6_act (l : Launch) (dC : Nat → ClassId) (dI : Nat → Nat → Nat) (ad : Nat → Nat) (o rw so ba ma : Nat) (cR cJ : ClassId) (sz : Nat) (S : CSt) (x1 : Int32) (x2 : Int32) (x3 : Int32) (x4 : Int32) (x5 : Int32) (hI : cInv S) : Met l yX6_act zX6_act ({ frames := 7, cells := 0, slots := 0, locals := 181 }) (va_Pc [.ref o, .int x1, .int x2, .int x3, .int x4, .int x5] (fun U => cB dC dI ad o rw so ba ma cR cJ sz S U)) (va_Qi (fun r9 S9 => (r9, S9) = f_X6_act S x1 x2 x3 x4 x5) (cE dC dI ad o rw so ba ma cR cJ (va_A (cWs ad o rw so ba ma cR cJ S) sz)) (va_A (cWs ad o rw so ba ma cR cJ S) sz)) 0 0 (va_A (cWs ad o rw so ba ma cR cJ S) sz) := by
  refine Met.ofW (cc := cX6_act) (maxL := 9) (ret := (some .int)) (by decide) rfl ?_
  intro p e s m args below meth c s₁ B hml hv
  obtain ⟨rfl, hsz, hP, hK, hD0, hkA⟩ := hv
  have hx := B.exec
  have hb := B.bytes
  have hr := B.returns
  have hts : ∀ w ∈ zall, w.before _ s = true := fun w h => atoms_spec (ws := zX6_act) B.pre w (List.mem_cons_of_mem _ h)
  have hown : s.vm.findClass RX6 = some m.cls := findClass_of_methodNamed B.named
  have hlocks := B.notSynchronized
  subst hsz
  have hD := hD0.self (sz := s.heap.size)
  generalize hAe : va_A (cWs ad o rw so ba ma cR cJ S) s.heap.size = A at hD hkA ⊢
  have hA : ∀ q : Nat, s.heap.size ≤ q → A q := fun q h => by rw [← hAe]; exact Or.inr h
  have hS : va_S A s.heap s.heap [] := va_S.rf
  have hw : cH dC dI ad o rw so ba ma cR cJ S s s.heap := ⟨hP, hK⟩
  have hk := kA_at hkA hS
  have hl := lv_entry ([.ref o, .int x1, .int x2, .int x3, .int x4, .int x5]) (n := 9) (Nat.le_of_ble_eq_true rfl)
  rw [lg_entry_eq]
  generalize (lg_sl ([.ref o, .int x1, .int x2, .int x3, .int x4, .int x5]) ++ List.replicate (9 - (lg_sl ([.ref o, .int x1, .int x2, .int x3, .int x4, .int x5])).length) Slot.unset).toArray = ls at hl ⊢
  have hl : lv_has ls 9 [(0, .ref o), (1, .int x1), (2, .int x2), (3, .int x3), (4, .int x4), (5, .int x5)] := hl
  have hf : f_X6_act S x1 x2 x3 x4 x5 = (f_X6_act_9 x1 S x2 x3 x4 x5) := rfl
  refine lv_aload_n hx hb dX6_act_0 rfl (lv_at hl 0 rfl) ?_
  refine lv_iload_n hx hb dX6_act_1 rfl (lv_at hl 1 rfl) ?_
  refine va_csq (va_Run.run (va_runV (As := [.int x1]) (rest := []) ⟨hx, hb, hml, hown, hts⟩ (c_X6_rowAt l dC dI ad o rw so ba ma cR cJ S x1 hI) (cwV 1 hts (gV iX6_rowAt (zin__r3 (.methodLink RX6 51 yX6_rowAt) (List.mem_of_getElem? (i := 9) rfl))) rfl rfl rfl (by decide +kernel) ⟨Nat.le_of_ble_eq_true rfl, Nat.le_of_ble_eq_true rfl⟩) ⟨fun a U g mk q => ⟨q.1, cW_bl q.2⟩, cW_rv hw, fun U hU hW => ⟨rfl, cW_mv hw hU hW⟩⟩ rfl rfl hl.1 rfl (lv_room (Nat.le_of_ble_eq_true rfl)) dX6_act_2 ⟨Nat.zero_le _, Nat.zero_le _⟩)) (fun r_2 hr_2 => ?_)
  rcases Decidable.em (0 ≤ x1 ∧ x1 < nI (cn S)) with c_2 | c_2
  · rw [if_pos c_2] at hr_2
    subst hr_2
    have hj_q2 : x1.toNatClampNeg < cn S := cRow_lt hI c_2
    have hr_q2 := rH_of hts hw hj_q2
    have hn_q2 : cln S x1.toNatClampNeg ≤ 500 := (hI.2 _ hj_q2).2.2
    have hkq_q2 : ckd S x1.toNatClampNeg < 2 := (hI.2 _ hj_q2).1
    have hf : f_X6_act S x1 x2 x3 x4 x5 = (f_X6_act_8 x2 S x1 x3 x4 x5) := hf.trans (if_pos c_2)
    refine lv_astore (lv' := [(6, .ref (cro S x1.toNatClampNeg)), (0, .ref o), (1, .int x1), (2, .int x2), (3, .int x3), (4, .int x4), (5, .int x5)]) hx hb dX6_act_5 hl (by decide) rfl (fun ls hl => ?_)
    refine lv_aload hx hb dX6_act_7 (lv_at hl 0 rfl) ?_
    refine lv_ifnonnull (tgt := 18) hx hb dX6_act_9 (by decide) ?_
    refine lv_iload_n hx hb dX6_act_18 rfl (lv_at hl 3 rfl) ?_
    refine W_cut (α := Unit) (pcJ := 57) (nL := 9) (fun v => f_X6_act S x1 x2 x3 x4 x5 = (f_X6_act_2 S)) (fun v => []) (fun v => [(0, .ref o)]) (fun v ls hf hl => ?_) (fun K_57 => ?_)
    · have hf : f_X6_act S x1 x2 x3 x4 x5 = (f_X6_act_1 (f_X6_refuse S (2 : Int32))) := hf
      have hl : lv_has ls 9 [(0, .ref o)] := hl
      refine lv_aload_n hx hb dX6_act_57 rfl (lv_at hl 0 rfl) ?_
      refine lv_iconst (v := 2) hx hb dX6_act_58 (by decide) ?_
      have hFc := va_freeAll hD hS hA
      refine va_calli (va_runV (As := [.int (2 : Int32)]) (rest := []) ⟨hx, hb, hml, hown, hts⟩ (c_X6_refuse l dC dI ad o rw so ba ma cR cJ s.heap.size S (2 : Int32)) (cwV 1 hts (gV iX6_refuse (zin__r2 (.methodLink RX6 32 yX6_refuse) (List.mem_of_getElem? (i := 14) rfl))) rfl rfl rfl (by decide +kernel) ⟨Nat.le_of_ble_eq_true rfl, Nat.le_of_ble_eq_true rfl⟩) ⟨fun a U g mk q => ⟨q.1, cB_bl q.2⟩, cW_rv hw, fun U hU hW => ⟨rfl, cB_mv hw hD (kA_in hkA hS hFc) hU hW⟩⟩ rfl rfl hl.1 rfl (lv_room (Nat.le_of_ble_eq_true rfl)) dX6_act_59 ⟨Nat.zero_le _, Nat.zero_le _⟩) hS (fun q _ h => hFc q h) hFc (fun r_59 S_1 t H1 locs ht hvm hw1 hB hz1 hk1 hS => ?_)
      obtain ⟨hP, -, hD1⟩ := hB
      rw [ht] at hP
      have hD := hD1.weaken (fun k q _ h => hFc q.1 h)
      generalize H1 = H at hP hS ⊢
      have hw : cH dC dI ad o rw so ba ma cR cJ S_1 s H := ⟨hP, hK⟩
      have hk := kA_at hkA hS
      have hf : f_X6_act S x1 x2 x3 x4 x5 = (r_59, S_1) := hf.trans (congrArg (fun z => (f_X6_act_1 z)) hw1.symm)
      exact W.iret hx hb hr (fun t ht hW => ⟨⟨_, S_1, rfl, hf.symm, by rw [ht]; exact hP, va_K.moved hW.alike hK, hD⟩, hS.F ht⟩) hS.2.2 dX6_act_62
    refine lv_if_lt (tgt := 57) hx hb dX6_act_19 (by decide) (fun c_19 => ?_) (fun c_19 => ?_)
    · have hf : f_X6_act S x1 x2 x3 x4 x5 = (f_X6_act_2 S) := hf.trans (if_pos c_19)
      exact K_57 () ls hf (lv_sub hl [1] rfl)
    · have hf : f_X6_act S x1 x2 x3 x4 x5 = (f_X6_act_7 x2 S x1 x3 x4 x5) := hf.trans (if_neg c_19)
      refine lv_iload_n hx hb dX6_act_22 rfl (lv_at hl 3 rfl) ?_
      refine lv_bipush (v := 13) hx hb dX6_act_23 (by decide) ?_
      refine lv_icmp_gt (tgt := 57) hx hb dX6_act_25 (by decide) (fun c_25 => ?_) (fun c_25 => ?_)
      · have hf : f_X6_act S x1 x2 x3 x4 x5 = (f_X6_act_2 S) := hf.trans (if_pos c_25)
        exact K_57 () ls hf (lv_sub hl [1] rfl)
      · have hf : f_X6_act S x1 x2 x3 x4 x5 = (f_X6_act_6 S x1 x3 x4 x5 x2) := hf.trans (if_neg c_25)
        refine lv_aload hx hb dX6_act_28 (lv_at hl 0 rfl) ?_
        refine lv_iload_n hx hb dX6_act_30 rfl (lv_at hl 4 rfl) ?_
        refine vp_callSi (va_Run.run (va_runV (As := [.int x3]) (rest := []) ⟨hx, hb, hml, hown, hts⟩ (c_X3_has l ad (cro S x1.toNatClampNeg) (cna S x1.toNatClampNeg) (cln S x1.toNatClampNeg) (cbt S x1.toNatClampNeg) (ckd S x1.toNatClampNeg) hkq_q2 x3) (cwV 1 hts (gV iX3_has (zin__r3 (.methodLink RX6 55 yX3_has) (List.mem_of_getElem? (i := 13) rfl))) rfl rfl rfl (by decide +kernel) ⟨Nat.le_of_ble_eq_true rfl, Nat.le_of_ble_eq_true rfl⟩) ⟨fun a U g mk q => ⟨q.1, kU_bl q.2.1, rU_bl q.2.2⟩, (rU_rv hr_q2), fun U hU hW => ⟨rfl, ⟨kU_mvH hk hU hW, rU_mvH hr_q2 hU hW⟩⟩⟩ rfl rfl hl.1 rfl (lv_room (Nat.le_of_ble_eq_true rfl)) dX6_act_31 ⟨Nat.zero_le _, Nat.zero_le _⟩)) (fun r_31 hr_31 => ?_)
        subst hr_31
        refine lv_if_eq (tgt := 57) hx hb dX6_act_34 (by decide) (fun c_34 => ?_) (fun c_34 => ?_)
        · have hf : f_X6_act S x1 x2 x3 x4 x5 = (f_X6_act_2 S) := hf.trans (if_pos c_34)
          exact K_57 () ls hf (lv_sub hl [1] rfl)
        · have hf : f_X6_act S x1 x2 x3 x4 x5 = (f_X6_act_5 S x1 x4 x5 x2 x3) := hf.trans (if_neg c_34)
          refine lv_aload hx hb dX6_act_37 (lv_at hl 0 rfl) ?_
          refine lv_iload hx hb dX6_act_39 (lv_at hl 5 rfl) ?_
          refine vp_callSi (va_Run.run (va_runV (As := [.int x4]) (rest := []) ⟨hx, hb, hml, hown, hts⟩ (c_X3_has l ad (cro S x1.toNatClampNeg) (cna S x1.toNatClampNeg) (cln S x1.toNatClampNeg) (cbt S x1.toNatClampNeg) (ckd S x1.toNatClampNeg) hkq_q2 x4) (cwV 1 hts (gV iX3_has (zin__r3 (.methodLink RX6 55 yX3_has) (List.mem_of_getElem? (i := 13) rfl))) rfl rfl rfl (by decide +kernel) ⟨Nat.le_of_ble_eq_true rfl, Nat.le_of_ble_eq_true rfl⟩) ⟨fun a U g mk q => ⟨q.1, kU_bl q.2.1, rU_bl q.2.2⟩, (rU_rv hr_q2), fun U hU hW => ⟨rfl, ⟨kU_mvH hk hU hW, rU_mvH hr_q2 hU hW⟩⟩⟩ rfl rfl hl.1 rfl (lv_room (Nat.le_of_ble_eq_true rfl)) dX6_act_41 ⟨Nat.zero_le _, Nat.zero_le _⟩)) (fun r_41 hr_41 => ?_)
          subst hr_41
          refine lv_if_eq (tgt := 57) hx hb dX6_act_44 (by decide) (fun c_44 => ?_) (fun c_44 => ?_)
          · have hf : f_X6_act S x1 x2 x3 x4 x5 = (f_X6_act_2 S) := hf.trans (if_pos c_44)
            exact K_57 () ls hf (lv_sub hl [1] rfl)
          · have hf : f_X6_act S x1 x2 x3 x4 x5 = (f_X6_act_4 S x1 x5 x2 x3 x4) := hf.trans (if_neg c_44)
            refine lv_aload hx hb dX6_act_47 (lv_at hl 0 rfl) ?_
            refine lv_iload hx hb dX6_act_49 (lv_at hl 6 rfl) ?_
            refine vp_callSi (va_Run.run (va_runV (As := [.int x5]) (rest := []) ⟨hx, hb, hml, hown, hts⟩ (c_X3_has l ad (cro S x1.toNatClampNeg) (cna S x1.toNatClampNeg) (cln S x1.toNatClampNeg) (cbt S x1.toNatClampNeg) (ckd S x1.toNatClampNeg) hkq_q2 x5) (cwV 1 hts (gV iX3_has (zin__r3 (.methodLink RX6 55 yX3_has) (List.mem_of_getElem? (i := 13) rfl))) rfl rfl rfl (by decide +kernel) ⟨Nat.le_of_ble_eq_true rfl, Nat.le_of_ble_eq_true rfl⟩) ⟨fun a U g mk q => ⟨q.1, kU_bl q.2.1, rU_bl q.2.2⟩, (rU_rv hr_q2), fun U hU hW => ⟨rfl, ⟨kU_mvH hk hU hW, rU_mvH hr_q2 hU hW⟩⟩⟩ rfl rfl hl.1 rfl (lv_room (Nat.le_of_ble_eq_true rfl)) dX6_act_51 ⟨Nat.zero_le _, Nat.zero_le _⟩)) (fun r_51 hr_51 => ?_)
            subst hr_51
            refine lv_if_ne (tgt := 63) hx hb dX6_act_54 (by decide) (fun c_54 => ?_) (fun c_54 => ?_)
            · have hf : f_X6_act S x1 x2 x3 x4 x5 = (f_X6_act_3 S x1 (f_X3_put (cbt S x1.toNatClampNeg) (ckd S x1.toNatClampNeg) x5 (f_X2_acted (ckd S x1.toNatClampNeg) x2 ((cbt S x1.toNatClampNeg) x3.toNatClampNeg) ((cbt S x1.toNatClampNeg) x4.toNatClampNeg)))) := hf.trans (if_neg c_54)
              refine lv_aload hx hb dX6_act_63 (lv_at hl 0 rfl) ?_
              refine gf_H hx hb hr_q2.2.1 hown (hts _ (zin__r3 (.fieldLink RX6 59 "ReckonBench$Row" "kind" "LReckonBench$Kind;") (List.mem_of_getElem? (i := 8) rfl))) (fun _ h9 => h9) dX6_act_65 ?_
              refine lv_iload_n hx hb dX6_act_68 rfl (lv_at hl 3 rfl) ?_
              refine lv_aload hx hb dX6_act_69 (lv_at hl 0 rfl) ?_
              refine gf_H hx hb hr_q2.2.2.1 hown (hts _ (zin__r5 (.fieldLink RX6 80 "ReckonBench$Row" "numbers" "[J") (List.mem_of_getElem? (i := 4) rfl))) (fun _ h9 => h9) dX6_act_71 ?_
              refine lv_iload_n hx hb dX6_act_74 rfl (lv_at hl 4 rfl) ?_
              refine tl_H hx hb hr_q2.2.2.2 (has_in hn_q2 c_34) (v := .long ((cbt S x1.toNatClampNeg) x3.toNatClampNeg)) rfl dX6_act_75 ?_
              refine lv_aload hx hb dX6_act_76 (lv_at hl 0 rfl) ?_
              refine gf_H hx hb hr_q2.2.2.1 hown (hts _ (zin__r5 (.fieldLink RX6 80 "ReckonBench$Row" "numbers" "[J") (List.mem_of_getElem? (i := 4) rfl))) (fun _ h9 => h9) dX6_act_78 ?_
              refine lv_iload hx hb dX6_act_81 (lv_at hl 5 rfl) ?_
              refine tl_H hx hb hr_q2.2.2.2 (has_in hn_q2 c_44) (v := .long ((cbt S x1.toNatClampNeg) x4.toNatClampNeg)) rfl dX6_act_83 ?_
              refine vp_callSl (va_Run.run (va_runS (As := [.ref (ad (ckd S x1.toNatClampNeg)), .int x2, .long ((cbt S x1.toNatClampNeg) x3.toNatClampNeg), .long ((cbt S x1.toNatClampNeg) x4.toNatClampNeg)]) (rest := []) ⟨hx, hb, hml, hown, hts⟩ (c_X2_acted l ad (ckd S x1.toNatClampNeg) hkq_q2 x2 ((cbt S x1.toNatClampNeg) x3.toNatClampNeg) ((cbt S x1.toNatClampNeg) x4.toNatClampNeg)) (va_cwS 4 hts (gS iX2_acted (zin__r7 (.methodLink RX6 121 yX2_acted) (List.mem_of_getElem? (i := 10) rfl))) rfl rfl rfl (by decide +kernel) ⟨Nat.le_of_ble_eq_true rfl, Nat.le_of_ble_eq_true rfl⟩) ⟨fun a U g mk q => ⟨q.1, kU_bl q.2⟩, fun U hU hW => ⟨rfl, kU_mvH hk hU hW⟩⟩ rfl rfl hl.1 rfl (lv_room (Nat.le_of_ble_eq_true rfl)) dX6_act_84 ⟨Nat.zero_le _, Nat.zero_le _⟩)) (fun r_84 hr_84 => ?_)
              subst hr_84
              refine lv_topl (fun v7_2 e_v7_2 => ?_)
              have hf : f_X6_act S x1 x2 x3 x4 x5 = (f_X6_act_3 S x1 (f_X3_put (cbt S x1.toNatClampNeg) (ckd S x1.toNatClampNeg) x5 v7_2)) := hf.trans (congrArg (fun z => (f_X6_act_3 S x1 (f_X3_put (cbt S x1.toNatClampNeg) (ckd S x1.toNatClampNeg) x5 z))) e_v7_2.symm)
              refine lv_lstore (lv' := [(7, .long v7_2), (6, .ref (cro S x1.toNatClampNeg)), (0, .ref o), (1, .int x1), (2, .int x2), (3, .int x3), (4, .int x4), (5, .int x5)]) hx hb dX6_act_87 hl (by decide) rfl (fun ls hl => ?_)
              refine lv_aload_n hx hb dX6_act_89 rfl (lv_at hl 2 rfl) ?_
              refine lv_aload hx hb dX6_act_90 (lv_at hl 1 rfl) ?_
              refine lv_iload hx hb dX6_act_92 (lv_at hl 7 rfl) ?_
              refine lv_lload hx hb dX6_act_94 (lv_at hl 0 rfl) ?_
              have hFc := cRow_free (j := x1.toNatClampNeg) hD hS hA hj_q2
              refine va_calli (va_runV (As := [.int x5, .long v7_2]) (rest := [.ref o]) ⟨hx, hb, hml, hown, hts⟩ (c_X3_put l dC dI ad (cro S x1.toNatClampNeg) (ckd S x1.toNatClampNeg) (cna S x1.toNatClampNeg) (cln S x1.toNatClampNeg) hkq_q2 cJ s.heap.size (cbt S x1.toNatClampNeg) x5 v7_2 (has_in hn_q2 c_54)) (cwV 2 hts (gV iX3_put (zin__r4 (.methodLink RX6 66 yX3_put) (List.mem_of_getElem? (i := 9) rfl))) rfl rfl rfl (by decide +kernel) ⟨Nat.le_of_ble_eq_true rfl, Nat.le_of_ble_eq_true rfl⟩) ⟨fun a U g mk q => ⟨q.1, rB_bl q.2⟩, rU_rv hr_q2, fun U hU hW => ⟨rfl, rB_mv hw hD (kA_in hkA hS hFc) hj_q2 hU hW⟩⟩ rfl rfl hl.1 rfl (lv_room (Nat.le_of_ble_eq_true rfl)) dX6_act_96 ⟨Nat.zero_le _, Nat.zero_le _⟩) hS (fun q _ h => hFc q h) hFc (fun r_96 f_3 t H1 locs ht hvm hw1 hB hz1 hk1 hS => ?_)
              obtain ⟨hP1, -, hD1⟩ := hB
              rw [ht] at hP1
              obtain ⟨hP, hD⟩ := cW_put hw.1 hD hj_q2 hP1 hk1
              generalize H1 = H at hP hS ⊢
              obtain ⟨S_4, e_S_4⟩ : ∃ z : CSt, z = (cset_bt S x1.toNatClampNeg f_3) := ⟨_, rfl⟩
              rw [← e_S_4] at hP hD
              have hw : cH dC dI ad o rw so ba ma cR cJ S_4 s H := ⟨hP, hK⟩
              have hk := kA_at hkA hS
              have hI : cInv S_4 := by rw [e_S_4]; exact hI
              have hf : f_X6_act S x1 x2 x3 x4 x5 = (f_X6_act_1 (f_X6_answer S_4 r_96)) := by rw [e_S_4]; exact hf.trans (congrArg (fun z => (f_X6_act_3 S x1 z)) hw1.symm)
              have hFc := va_freeAll hD hS hA
              refine va_calli (va_runV (As := [.int r_96]) (rest := []) ⟨hx, hb, hml, hown, hts⟩ (c_X6_answer l dC dI ad o rw so ba ma cR cJ H.size S_4 r_96) (cwV 1 hts (gV iX6_answer (zin__r3 (.methodLink RX6 48 yX6_answer) (List.mem_of_getElem? (i := 0) rfl))) rfl rfl rfl (by decide +kernel) ⟨Nat.le_of_ble_eq_true rfl, Nat.le_of_ble_eq_true rfl⟩) ⟨fun a U g mk q => ⟨q.1, cB_bl q.2⟩, cW_rv hw, fun U hU hW => ⟨rfl, cB_mv hw hD (kA_in hkA hS hFc) hU hW⟩⟩ rfl rfl hl.1 rfl (lv_room (Nat.le_of_ble_eq_true rfl)) dX6_act_99 ⟨Nat.zero_le _, Nat.zero_le _⟩) hS (fun q _ h => hFc q h) hFc (fun r_99 S_5 t H1 locs ht hvm hw1 hB hz1 hk1 hS => ?_)
              obtain ⟨hP, -, hD1⟩ := hB
              rw [ht] at hP
              have hD := hD1.weaken (fun k q _ h => hFc q.1 h)
              generalize H1 = H at hP hS ⊢
              have hw : cH dC dI ad o rw so ba ma cR cJ S_5 s H := ⟨hP, hK⟩
              have hk := kA_at hkA hS
              have hf : f_X6_act S x1 x2 x3 x4 x5 = (r_99, S_5) := hf.trans (congrArg (fun z => (f_X6_act_1 z)) hw1.symm)
              exact W.iret hx hb hr (fun t ht hW => ⟨⟨_, S_5, rfl, hf.symm, by rw [ht]; exact hP, va_K.moved hW.alike hK, hD⟩, hS.F ht⟩) hS.2.2 dX6_act_102
            · have hf : f_X6_act S x1 x2 x3 x4 x5 = (f_X6_act_2 S) := hf.trans (if_pos c_54)
              exact K_57 () ls hf (lv_sub hl [1] rfl)
  · rw [if_neg c_2] at hr_2
    subst hr_2
    have hf : f_X6_act S x1 x2 x3 x4 x5 = (f_X6_act_1 (f_X6_refuse S (1 : Int32))) := hf.trans (if_neg c_2)
    refine lv_astoreN (lv' := [(6, .null), (0, .ref o), (1, .int x1), (2, .int x2), (3, .int x3), (4, .int x4), (5, .int x5)]) hx hb dX6_act_5 hl (by decide) rfl (fun ls hl => ?_)
    refine lv_aloadN hx hb dX6_act_7 (lv_at hl 0 rfl) ?_
    refine lv_ifnonnullN hx hb dX6_act_9 ?_
    refine lv_aload_n hx hb dX6_act_12 rfl (lv_at hl 1 rfl) ?_
    refine lv_iconst (v := 1) hx hb dX6_act_13 (by decide) ?_
    have hFc := va_freeAll hD hS hA
    refine va_calli (va_runV (As := [.int (1 : Int32)]) (rest := []) ⟨hx, hb, hml, hown, hts⟩ (c_X6_refuse l dC dI ad o rw so ba ma cR cJ s.heap.size S (1 : Int32)) (cwV 1 hts (gV iX6_refuse (zin__r2 (.methodLink RX6 32 yX6_refuse) (List.mem_of_getElem? (i := 14) rfl))) rfl rfl rfl (by decide +kernel) ⟨Nat.le_of_ble_eq_true rfl, Nat.le_of_ble_eq_true rfl⟩) ⟨fun a U g mk q => ⟨q.1, cB_bl q.2⟩, cW_rv hw, fun U hU hW => ⟨rfl, cB_mv hw hD (kA_in hkA hS hFc) hU hW⟩⟩ rfl rfl hl.1 rfl (lv_room (Nat.le_of_ble_eq_true rfl)) dX6_act_14 ⟨Nat.zero_le _, Nat.zero_le _⟩) hS (fun q _ h => hFc q h) hFc (fun r_14 S_6 t H1 locs ht hvm hw1 hB hz1 hk1 hS => ?_)
    obtain ⟨hP, -, hD1⟩ := hB
    rw [ht] at hP
    have hD := hD1.weaken (fun k q _ h => hFc q.1 h)
    generalize H1 = H at hP hS ⊢
    have hw : cH dC dI ad o rw so ba ma cR cJ S_6 s H := ⟨hP, hK⟩
    have hk := kA_at hkA hS
    have hf : f_X6_act S x1 x2 x3 x4 x5 = (r_14, S_6) := hf.trans (congrArg (fun z => (f_X6_act_1 z)) hw1.symm)
    exact W.iret hx hb hr (fun t ht hW => ⟨⟨_, S_6, rfl, hf.symm, by rw [ht]; exact hP, va_K.moved hW.alike hK, hD⟩, hS.F ht⟩) hS.2.2 dX6_act_17
def f_X6_step_1 (p9 : Int32 × CSt) : Int32 × CSt := (p9.1, p9.2)
def f_X6_step_2 (S : CSt) : Int32 × CSt := (f_X6_step_1 (f_X6_refuse S (2 : Int32)))
def f_X6_step_3 (S : CSt) (x1 : Int32) (p9 : Int32 × (Nat → Int64)) (v8_3 : Int64) (v6_2 : Int64) : Int32 × CSt := (f_X6_step_1 (f_X6_answer (cset_bt S x1.toNatClampNeg p9.2) (((jabsL ((f_X1_valueRank (ckd S x1.toNatClampNeg) v8_3) - (f_X1_valueRank (ckd S x1.toNatClampNeg) v6_2)))).toInt32)))
def f_X6_step_4 (S : CSt) (x1 : Int32) (x2 : Int32) (v8_3 : Int64) (v6_2 : Int64) : Int32 × CSt := (f_X6_step_3 S x1 (f_X3_put (cbt S x1.toNatClampNeg) (ckd S x1.toNatClampNeg) x2 v8_3) v8_3 v6_2)
def f_X6_step_5 (S : CSt) (x1 : Int32) (x2 : Int32) (v6_2 : Int64) (x3 : Int32) : Int32 × CSt := (f_X6_step_4 S x1 x2 (f_X1_stepped (ckd S x1.toNatClampNeg) v6_2 x3) v6_2)
def f_X6_step_6 (x3 : Int32) (S : CSt) (x1 : Int32) (x2 : Int32) : Int32 × CSt := if x3 ≤ (1000000000 : Int32) then (f_X6_step_5 S x1 x2 ((cbt S x1.toNatClampNeg) x2.toNatClampNeg) x3) else (f_X6_step_2 S)
def f_X6_step_7 (x3 : Int32) (S : CSt) (x1 : Int32) (x2 : Int32) : Int32 × CSt := if x3 < (-1000000000 : Int32) then (f_X6_step_2 S) else (f_X6_step_6 x3 S x1 x2)
def f_X6_step_8 (S : CSt) (x1 : Int32) (x2 : Int32) (x3 : Int32) : Int32 × CSt := if (f_X3_has (ckd S x1.toNatClampNeg) (cln S x1.toNatClampNeg) (cbt S x1.toNatClampNeg) x2) = 0 then (f_X6_step_2 S) else (f_X6_step_7 x3 S x1 x2)
def f_X6_step_9 (x1 : Int32) (S : CSt) (x2 : Int32) (x3 : Int32) : Int32 × CSt := if 0 ≤ x1 ∧ x1 < nI (cn S) then (f_X6_step_8 S x1 x2 x3) else (f_X6_step_1 (f_X6_refuse S (1 : Int32)))
def f_X6_step (S : CSt) (x1 : Int32) (x2 : Int32) (x3 : Int32) : Int32 × CSt := (f_X6_step_9 x1 S x2 x3)
def f_X6_least_1 (p9 : Int32 × CSt) : Int32 × CSt := (p9.1, p9.2)
def f_X6_least_2 (x1 : Int32) (S : CSt) : Int32 × CSt := if 0 ≤ x1 ∧ x1 < nI (cn S) then (f_X6_least_1 (f_X6_answer S (f_X3_firstExtreme (ckd S x1.toNatClampNeg) (cln S x1.toNatClampNeg) (cbt S x1.toNatClampNeg) (0 : Int32)))) else (f_X6_least_1 (f_X6_refuse S (1 : Int32)))
def f_X6_least (S : CSt) (x1 : Int32) : Int32 × CSt := (f_X6_least_2 x1 S)
def f_X6_greatest_1 (p9 : Int32 × CSt) : Int32 × CSt := (p9.1, p9.2)
def f_X6_greatest_2 (x1 : Int32) (S : CSt) : Int32 × CSt := if 0 ≤ x1 ∧ x1 < nI (cn S) then (f_X6_greatest_1 (f_X6_answer S (f_X3_firstExtreme (ckd S x1.toNatClampNeg) (cln S x1.toNatClampNeg) (cbt S x1.toNatClampNeg) (1 : Int32)))) else (f_X6_greatest_1 (f_X6_refuse S (1 : Int32)))
def f_X6_greatest (S : CSt) (x1 : Int32) : Int32 × CSt := (f_X6_greatest_2 x1 S)
def f_X6_find_1 (p9 : Int32 × CSt) : Int32 × CSt := (p9.1, p9.2)
def f_X6_find_2 (S : CSt) (x1 : Int32) (x2 : Int64) : Int32 × CSt := if (f_X3_isSorted (ckd S x1.toNatClampNeg) (cln S x1.toNatClampNeg) (cbt S x1.toNatClampNeg)) = 0 then (f_X6_find_1 (f_X6_refuse S (4 : Int32))) else (f_X6_find_1 (f_X6_answer S (f_X3_firstWith (ckd S x1.toNatClampNeg) (cln S x1.toNatClampNeg) (cbt S x1.toNatClampNeg) (f_X1_cleaned (ckd S x1.toNatClampNeg) x2))))
def f_X6_find_3 (x1 : Int32) (S : CSt) (x2 : Int64) : Int32 × CSt := if 0 ≤ x1 ∧ x1 < nI (cn S) then (f_X6_find_2 S x1 x2) else (f_X6_find_1 (f_X6_refuse S (1 : Int32)))
def f_X6_find (S : CSt) (x1 : Int32) (x2 : Int64) : Int32 × CSt := (f_X6_find_3 x1 S x2)
def f_X6_move_1 (p9 : Int32 × CSt) : Int32 × CSt := (p9.1, p9.2)
def f_X6_move_2 (S : CSt) (x3 : Int32) (p9 : Int32 × (Nat → Int64)) : Int32 × CSt := (f_X6_move_1 (f_X6_answer (cset_bt S x3.toNatClampNeg p9.2) p9.1))
def f_X6_move_3 (x5 : Int32) (S : CSt) (x3 : Int32) (x4 : Int32) (x1 : Int32) (x2 : Int32) : Int32 × CSt := if x5 = 0 then (f_X6_move_1 (f_X6_refuse S (3 : Int32))) else (f_X6_move_2 S x3 (f_X3_put (cbt S x3.toNatClampNeg) (ckd S x3.toNatClampNeg) x4 (f_X2_turned (ckd S x1.toNatClampNeg) ((cbt S x1.toNatClampNeg) x2.toNatClampNeg) (ckd S x3.toNatClampNeg))))
def f_X6_move_4 (S : CSt) (x1 : Int32) (x3 : Int32) (x4 : Int32) (x2 : Int32) (x5 : Int32) : Int32 × CSt := if (ckd S x1.toNatClampNeg) = (ckd S x3.toNatClampNeg) then (f_X6_move_2 S x3 (f_X3_put (cbt S x3.toNatClampNeg) (ckd S x3.toNatClampNeg) x4 (f_X2_turned (ckd S x1.toNatClampNeg) ((cbt S x1.toNatClampNeg) x2.toNatClampNeg) (ckd S x3.toNatClampNeg)))) else (f_X6_move_3 x5 S x3 x4 x1 x2)
def f_X6_move_5 (S : CSt) (x3 : Int32) (x4 : Int32) (x1 : Int32) (x2 : Int32) (x5 : Int32) : Int32 × CSt := if (f_X3_has (ckd S x3.toNatClampNeg) (cln S x3.toNatClampNeg) (cbt S x3.toNatClampNeg) x4) = 0 then (f_X6_move_1 (f_X6_refuse S (2 : Int32))) else (f_X6_move_4 S x1 x3 x4 x2 x5)
def f_X6_move_6 (S : CSt) (x1 : Int32) (x2 : Int32) (x3 : Int32) (x4 : Int32) (x5 : Int32) : Int32 × CSt := if (f_X3_has (ckd S x1.toNatClampNeg) (cln S x1.toNatClampNeg) (cbt S x1.toNatClampNeg) x2) = 0 then (f_X6_move_1 (f_X6_refuse S (2 : Int32))) else (f_X6_move_5 S x3 x4 x1 x2 x5)
def f_X6_move_7 (x3 : Int32) (S : CSt) (x1 : Int32) (x2 : Int32) (x4 : Int32) (x5 : Int32) : Int32 × CSt := if 0 ≤ x3 ∧ x3 < nI (cn S) then (f_X6_move_6 S x1 x2 x3 x4 x5) else (f_X6_move_1 (f_X6_refuse S (2 : Int32)))
def f_X6_move_8 (x1 : Int32) (S : CSt) (x3 : Int32) (x2 : Int32) (x4 : Int32) (x5 : Int32) : Int32 × CSt := if 0 ≤ x1 ∧ x1 < nI (cn S) then (f_X6_move_7 x3 S x1 x2 x4 x5) else (f_X6_move_1 (f_X6_refuse S (1 : Int32)))
def f_X6_move (S : CSt) (x1 : Int32) (x2 : Int32) (x3 : Int32) (x4 : Int32) (x5 : Int32) : Int32 × CSt := (f_X6_move_8 x1 S x3 x2 x4 x5)
def zX6_move : List Cond := .code yX6_move cX6_move 8 (some .int) :: zall
theorem iX6_move : MWv RX6 yX6_move (.code yX6_move cX6_move 8 (some .int)) := ⟨(zin__r12 (.instanceMethod yX6_move) (List.mem_of_getElem? (i := 9) rfl)), (zin__r12 (.selects RX6 yX6_move yX6_move) (List.mem_of_getElem? (i := 10) rfl)), (zin__r1 (.initialized RX6) (List.mem_of_getElem? (i := 2) rfl)), (zin__r12 (.code yX6_move cX6_move 8 (some .int)) (List.mem_of_getElem? (i := 11) rfl))⟩
set_option maxHeartbeats 4000000 in
set_option maxRecDepth 100000 in
theorem c_X6_move (l : Launch) (dC : Nat → ClassId) (dI : Nat → Nat → Nat) (ad : Nat → Nat) (o rw so ba ma : Nat) (cR cJ : ClassId) (sz : Nat) (S : CSt) (x1 : Int32) (x2 : Int32) (x3 : Int32) (x4 : Int32) (x5 : Int32) (hI : cInv S) (had : ¬ ad 0 = ad 1) : Met l yX6_move zX6_move ({ frames := 4, cells := 0, slots := 0, locals := 96 }) (va_Pc [.ref o, .int x1, .int x2, .int x3, .int x4, .int x5] (fun U => cB dC dI ad o rw so ba ma cR cJ sz S U)) (va_Qi (fun r9 S9 => (r9, S9) = f_X6_move S x1 x2 x3 x4 x5) (cE dC dI ad o rw so ba ma cR cJ (va_A (cWs ad o rw so ba ma cR cJ S) sz)) (va_A (cWs ad o rw so ba ma cR cJ S) sz)) 0 0 (va_A (cWs ad o rw so ba ma cR cJ S) sz) := by
  refine Met.ofW (cc := cX6_move) (maxL := 8) (ret := (some .int)) (by decide) rfl ?_
  intro p e s m args below meth c s₁ B hml hv
  obtain ⟨rfl, hsz, hP, hK, hD0, hkA⟩ := hv
  have hx := B.exec
  have hb := B.bytes
  have hr := B.returns
  have hts : ∀ w ∈ zall, w.before _ s = true := fun w h => atoms_spec (ws := zX6_move) B.pre w (List.mem_cons_of_mem _ h)
  have hown : s.vm.findClass RX6 = some m.cls := findClass_of_methodNamed B.named
  have hlocks := B.notSynchronized
  subst hsz
  have hD := hD0.self (sz := s.heap.size)
  generalize hAe : va_A (cWs ad o rw so ba ma cR cJ S) s.heap.size = A at hD hkA ⊢
  have hA : ∀ q : Nat, s.heap.size ≤ q → A q := fun q h => by rw [← hAe]; exact Or.inr h
  have hS : va_S A s.heap s.heap [] := va_S.rf
  have hw : cH dC dI ad o rw so ba ma cR cJ S s s.heap := ⟨hP, hK⟩
  have hk := kA_at hkA hS
  have hl := lv_entry ([.ref o, .int x1, .int x2, .int x3, .int x4, .int x5]) (n := 8) (Nat.le_of_ble_eq_true rfl)
  rw [lg_entry_eq]
  generalize (lg_sl ([.ref o, .int x1, .int x2, .int x3, .int x4, .int x5]) ++ List.replicate (8 - (lg_sl ([.ref o, .int x1, .int x2, .int x3, .int x4, .int x5])).length) Slot.unset).toArray = ls at hl ⊢
  have hl : lv_has ls 8 [(0, .ref o), (1, .int x1), (2, .int x2), (3, .int x3), (4, .int x4), (5, .int x5)] := hl
  have hf : f_X6_move S x1 x2 x3 x4 x5 = (f_X6_move_8 x1 S x3 x2 x4 x5) := rfl
  refine lv_aload_n hx hb dX6_move_0 rfl (lv_at hl 0 rfl) ?_
  refine lv_iload_n hx hb dX6_move_1 rfl (lv_at hl 1 rfl) ?_
  refine va_csq (va_Run.run (va_runV (As := [.int x1]) (rest := []) ⟨hx, hb, hml, hown, hts⟩ (c_X6_rowAt l dC dI ad o rw so ba ma cR cJ S x1 hI) (cwV 1 hts (gV iX6_rowAt (zin__r3 (.methodLink RX6 51 yX6_rowAt) (List.mem_of_getElem? (i := 9) rfl))) rfl rfl rfl (by decide +kernel) ⟨Nat.le_of_ble_eq_true rfl, Nat.le_of_ble_eq_true rfl⟩) ⟨fun a U g mk q => ⟨q.1, cW_bl q.2⟩, cW_rv hw, fun U hU hW => ⟨rfl, cW_mv hw hU hW⟩⟩ rfl rfl hl.1 rfl (lv_room (Nat.le_of_ble_eq_true rfl)) dX6_move_2 ⟨Nat.zero_le _, Nat.zero_le _⟩)) (fun r_2 hr_2 => ?_)
  rcases Decidable.em (0 ≤ x1 ∧ x1 < nI (cn S)) with c_2 | c_2
  · rw [if_pos c_2] at hr_2
    subst hr_2
    have hj_q2 : x1.toNatClampNeg < cn S := cRow_lt hI c_2
    have hr_q2 := rH_of hts hw hj_q2
    have hn_q2 : cln S x1.toNatClampNeg ≤ 500 := (hI.2 _ hj_q2).2.2
    have hkq_q2 : ckd S x1.toNatClampNeg < 2 := (hI.2 _ hj_q2).1
    have hf : f_X6_move S x1 x2 x3 x4 x5 = (f_X6_move_7 x3 S x1 x2 x4 x5) := hf.trans (if_pos c_2)
    refine lv_astore (lv' := [(6, .ref (cro S x1.toNatClampNeg)), (0, .ref o), (1, .int x1), (2, .int x2), (3, .int x3), (4, .int x4), (5, .int x5)]) hx hb dX6_move_5 hl (by decide) rfl (fun ls hl => ?_)
    refine lv_aload hx hb dX6_move_7 (lv_at hl 0 rfl) ?_
    refine lv_ifnonnull (tgt := 18) hx hb dX6_move_9 (by decide) ?_
    refine lv_aload_n hx hb dX6_move_18 rfl (lv_at hl 1 rfl) ?_
    refine lv_iload_n hx hb dX6_move_19 rfl (lv_at hl 4 rfl) ?_
    refine va_csq (va_Run.run (va_runV (As := [.int x3]) (rest := []) ⟨hx, hb, hml, hown, hts⟩ (c_X6_rowAt l dC dI ad o rw so ba ma cR cJ S x3 hI) (cwV 1 hts (gV iX6_rowAt (zin__r3 (.methodLink RX6 51 yX6_rowAt) (List.mem_of_getElem? (i := 9) rfl))) rfl rfl rfl (by decide +kernel) ⟨Nat.le_of_ble_eq_true rfl, Nat.le_of_ble_eq_true rfl⟩) ⟨fun a U g mk q => ⟨q.1, cW_bl q.2⟩, cW_rv hw, fun U hU hW => ⟨rfl, cW_mv hw hU hW⟩⟩ rfl rfl hl.1 rfl (lv_room (Nat.le_of_ble_eq_true rfl)) dX6_move_20 ⟨Nat.zero_le _, Nat.zero_le _⟩)) (fun r_20 hr_20 => ?_)
    rcases Decidable.em (0 ≤ x3 ∧ x3 < nI (cn S)) with c_20 | c_20
    · rw [if_pos c_20] at hr_20
      subst hr_20
      have hj_q20 : x3.toNatClampNeg < cn S := cRow_lt hI c_20
      have hr_q20 := rH_of hts hw hj_q20
      have hn_q20 : cln S x3.toNatClampNeg ≤ 500 := (hI.2 _ hj_q20).2.2
      have hkq_q20 : ckd S x3.toNatClampNeg < 2 := (hI.2 _ hj_q20).1
      have hf : f_X6_move S x1 x2 x3 x4 x5 = (f_X6_move_6 S x1 x2 x3 x4 x5) := hf.trans (if_pos c_20)
      refine lv_astore (lv' := [(7, .ref (cro S x3.toNatClampNeg)), (6, .ref (cro S x1.toNatClampNeg)), (0, .ref o), (1, .int x1), (2, .int x2), (3, .int x3), (4, .int x4), (5, .int x5)]) hx hb dX6_move_23 hl (by decide) rfl (fun ls hl => ?_)
      refine lv_aload hx hb dX6_move_25 (lv_at hl 0 rfl) ?_
      refine lv_ifnull hx hb dX6_move_27 ?_
      refine lv_aload hx hb dX6_move_30 (lv_at hl 1 rfl) ?_
      refine lv_iload_n hx hb dX6_move_32 rfl (lv_at hl 4 rfl) ?_
      refine vp_callSi (va_Run.run (va_runV (As := [.int x2]) (rest := []) ⟨hx, hb, hml, hown, hts⟩ (c_X3_has l ad (cro S x1.toNatClampNeg) (cna S x1.toNatClampNeg) (cln S x1.toNatClampNeg) (cbt S x1.toNatClampNeg) (ckd S x1.toNatClampNeg) hkq_q2 x2) (cwV 1 hts (gV iX3_has (zin__r3 (.methodLink RX6 55 yX3_has) (List.mem_of_getElem? (i := 13) rfl))) rfl rfl rfl (by decide +kernel) ⟨Nat.le_of_ble_eq_true rfl, Nat.le_of_ble_eq_true rfl⟩) ⟨fun a U g mk q => ⟨q.1, kU_bl q.2.1, rU_bl q.2.2⟩, (rU_rv hr_q2), fun U hU hW => ⟨rfl, ⟨kU_mvH hk hU hW, rU_mvH hr_q2 hU hW⟩⟩⟩ rfl rfl hl.1 rfl (lv_room (Nat.le_of_ble_eq_true rfl)) dX6_move_33 ⟨Nat.zero_le _, Nat.zero_le _⟩)) (fun r_33 hr_33 => ?_)
      subst hr_33
      refine lv_if_eq (tgt := 49) hx hb dX6_move_36 (by decide) (fun c_36 => ?_) (fun c_36 => ?_)
      · have hf : f_X6_move S x1 x2 x3 x4 x5 = (f_X6_move_1 (f_X6_refuse S (2 : Int32))) := hf.trans (if_pos c_36)
        refine lv_aload_n hx hb dX6_move_49 rfl (lv_at hl 2 rfl) ?_
        refine lv_iconst (v := 2) hx hb dX6_move_50 (by decide) ?_
        have hFc := va_freeAll hD hS hA
        refine va_calli (va_runV (As := [.int (2 : Int32)]) (rest := []) ⟨hx, hb, hml, hown, hts⟩ (c_X6_refuse l dC dI ad o rw so ba ma cR cJ s.heap.size S (2 : Int32)) (cwV 1 hts (gV iX6_refuse (zin__r2 (.methodLink RX6 32 yX6_refuse) (List.mem_of_getElem? (i := 14) rfl))) rfl rfl rfl (by decide +kernel) ⟨Nat.le_of_ble_eq_true rfl, Nat.le_of_ble_eq_true rfl⟩) ⟨fun a U g mk q => ⟨q.1, cB_bl q.2⟩, cW_rv hw, fun U hU hW => ⟨rfl, cB_mv hw hD (kA_in hkA hS hFc) hU hW⟩⟩ rfl rfl hl.1 rfl (lv_room (Nat.le_of_ble_eq_true rfl)) dX6_move_51 ⟨Nat.zero_le _, Nat.zero_le _⟩) hS (fun q _ h => hFc q h) hFc (fun r_51 S_1 t H1 locs ht hvm hw1 hB hz1 hk1 hS => ?_)
        obtain ⟨hP, -, hD1⟩ := hB
        rw [ht] at hP
        have hD := hD1.weaken (fun k q _ h => hFc q.1 h)
        generalize H1 = H at hP hS ⊢
        have hw : cH dC dI ad o rw so ba ma cR cJ S_1 s H := ⟨hP, hK⟩
        have hk := kA_at hkA hS
        have hf : f_X6_move S x1 x2 x3 x4 x5 = (r_51, S_1) := hf.trans (congrArg (fun z => (f_X6_move_1 z)) hw1.symm)
        exact W.iret hx hb hr (fun t ht hW => ⟨⟨_, S_1, rfl, hf.symm, by rw [ht]; exact hP, va_K.moved hW.alike hK, hD⟩, hS.F ht⟩) hS.2.2 dX6_move_54
      · have hf : f_X6_move S x1 x2 x3 x4 x5 = (f_X6_move_5 S x3 x4 x1 x2 x5) := hf.trans (if_neg c_36)
        refine lv_aload hx hb dX6_move_39 (lv_at hl 0 rfl) ?_
        refine lv_iload hx hb dX6_move_41 (lv_at hl 6 rfl) ?_
        refine vp_callSi (va_Run.run (va_runV (As := [.int x4]) (rest := []) ⟨hx, hb, hml, hown, hts⟩ (c_X3_has l ad (cro S x3.toNatClampNeg) (cna S x3.toNatClampNeg) (cln S x3.toNatClampNeg) (cbt S x3.toNatClampNeg) (ckd S x3.toNatClampNeg) hkq_q20 x4) (cwV 1 hts (gV iX3_has (zin__r3 (.methodLink RX6 55 yX3_has) (List.mem_of_getElem? (i := 13) rfl))) rfl rfl rfl (by decide +kernel) ⟨Nat.le_of_ble_eq_true rfl, Nat.le_of_ble_eq_true rfl⟩) ⟨fun a U g mk q => ⟨q.1, kU_bl q.2.1, rU_bl q.2.2⟩, (rU_rv hr_q20), fun U hU hW => ⟨rfl, ⟨kU_mvH hk hU hW, rU_mvH hr_q20 hU hW⟩⟩⟩ rfl rfl hl.1 rfl (lv_room (Nat.le_of_ble_eq_true rfl)) dX6_move_43 ⟨Nat.zero_le _, Nat.zero_le _⟩)) (fun r_43 hr_43 => ?_)
        subst hr_43
        refine lv_if_ne (tgt := 55) hx hb dX6_move_46 (by decide) (fun c_46 => ?_) (fun c_46 => ?_)
        · have hf : f_X6_move S x1 x2 x3 x4 x5 = (f_X6_move_4 S x1 x3 x4 x2 x5) := hf.trans (if_neg c_46)
          refine lv_aload hx hb dX6_move_55 (lv_at hl 1 rfl) ?_
          refine gf_H hx hb hr_q2.2.1 hown (hts _ (zin__r3 (.fieldLink RX6 59 "ReckonBench$Row" "kind" "LReckonBench$Kind;") (List.mem_of_getElem? (i := 8) rfl))) (fun _ h9 => h9) dX6_move_57 ?_
          refine lv_aload hx hb dX6_move_60 (lv_at hl 0 rfl) ?_
          refine gf_H hx hb hr_q20.2.1 hown (hts _ (zin__r3 (.fieldLink RX6 59 "ReckonBench$Row" "kind" "LReckonBench$Kind;") (List.mem_of_getElem? (i := 8) rfl))) (fun _ h9 => h9) dX6_move_62 ?_
          refine lv_acmp_eq (rx := some (ad (ckd S x1.toNatClampNeg))) (ry := some (ad (ckd S x3.toNatClampNeg))) (tgt := 79) hx hb dX6_move_65 (by decide) (fun c_65 => ?_) (fun c_65 => ?_)
          · have c_65 : (ckd S x1.toNatClampNeg) = (ckd S x3.toNatClampNeg) := ad_inj had hkq_q2 hkq_q20 (Option.some.inj c_65)
            have hf : f_X6_move S x1 x2 x3 x4 x5 = (f_X6_move_2 S x3 (f_X3_put (cbt S x3.toNatClampNeg) (ckd S x3.toNatClampNeg) x4 (f_X2_turned (ckd S x1.toNatClampNeg) ((cbt S x1.toNatClampNeg) x2.toNatClampNeg) (ckd S x3.toNatClampNeg)))) := hf.trans (if_pos c_65)
            refine lv_aload_n hx hb dX6_move_79 rfl (lv_at hl 2 rfl) ?_
            refine lv_aload hx hb dX6_move_80 (lv_at hl 0 rfl) ?_
            refine lv_iload hx hb dX6_move_82 (lv_at hl 6 rfl) ?_
            refine lv_aload hx hb dX6_move_84 (lv_at hl 1 rfl) ?_
            refine gf_H hx hb hr_q2.2.1 hown (hts _ (zin__r3 (.fieldLink RX6 59 "ReckonBench$Row" "kind" "LReckonBench$Kind;") (List.mem_of_getElem? (i := 8) rfl))) (fun _ h9 => h9) dX6_move_86 ?_
            refine lv_aload hx hb dX6_move_89 (lv_at hl 1 rfl) ?_
            refine gf_H hx hb hr_q2.2.2.1 hown (hts _ (zin__r5 (.fieldLink RX6 80 "ReckonBench$Row" "numbers" "[J") (List.mem_of_getElem? (i := 4) rfl))) (fun _ h9 => h9) dX6_move_91 ?_
            refine lv_iload_n hx hb dX6_move_94 rfl (lv_at hl 4 rfl) ?_
            refine tl_H hx hb hr_q2.2.2.2 (has_in hn_q2 c_36) (v := .long ((cbt S x1.toNatClampNeg) x2.toNatClampNeg)) rfl dX6_move_95 ?_
            refine lv_aload hx hb dX6_move_96 (lv_at hl 0 rfl) ?_
            refine gf_H hx hb hr_q20.2.1 hown (hts _ (zin__r3 (.fieldLink RX6 59 "ReckonBench$Row" "kind" "LReckonBench$Kind;") (List.mem_of_getElem? (i := 8) rfl))) (fun _ h9 => h9) dX6_move_98 ?_
            refine vp_callSl (va_Run.run (va_runS (As := [.ref (ad (ckd S x1.toNatClampNeg)), .long ((cbt S x1.toNatClampNeg) x2.toNatClampNeg), .ref (ad (ckd S x3.toNatClampNeg))]) (rest := [.int x4, .ref (cro S x3.toNatClampNeg), .ref o]) ⟨hx, hb, hml, hown, hts⟩ (c_X2_turned l ad (ckd S x1.toNatClampNeg) hkq_q2 ((cbt S x1.toNatClampNeg) x2.toNatClampNeg) (ckd S x3.toNatClampNeg) hkq_q20) (va_cwS 3 hts (gS iX2_turned (zin__r12 (.methodLink RX6 190 yX2_turned) (List.mem_of_getElem? (i := 12) rfl))) rfl rfl rfl (by decide +kernel) ⟨Nat.le_of_ble_eq_true rfl, Nat.le_of_ble_eq_true rfl⟩) ⟨fun a U g mk q => ⟨q.1, kU_bl q.2⟩, fun U hU hW => ⟨rfl, kU_mvH hk hU hW⟩⟩ rfl rfl hl.1 rfl (lv_room (Nat.le_of_ble_eq_true rfl)) dX6_move_101 ⟨Nat.zero_le _, Nat.zero_le _⟩)) (fun r_101 hr_101 => ?_)
            subst hr_101
            have hFc := cRow_free (j := x3.toNatClampNeg) hD hS hA hj_q20
            refine va_calli (va_runV (As := [.int x4, .long (f_X2_turned (ckd S x1.toNatClampNeg) ((cbt S x1.toNatClampNeg) x2.toNatClampNeg) (ckd S x3.toNatClampNeg))]) (rest := [.ref o]) ⟨hx, hb, hml, hown, hts⟩ (c_X3_put l dC dI ad (cro S x3.toNatClampNeg) (ckd S x3.toNatClampNeg) (cna S x3.toNatClampNeg) (cln S x3.toNatClampNeg) hkq_q20 cJ s.heap.size (cbt S x3.toNatClampNeg) x4 (f_X2_turned (ckd S x1.toNatClampNeg) ((cbt S x1.toNatClampNeg) x2.toNatClampNeg) (ckd S x3.toNatClampNeg)) (has_in hn_q20 c_46)) (cwV 2 hts (gV iX3_put (zin__r4 (.methodLink RX6 66 yX3_put) (List.mem_of_getElem? (i := 9) rfl))) rfl rfl rfl (by decide +kernel) ⟨Nat.le_of_ble_eq_true rfl, Nat.le_of_ble_eq_true rfl⟩) ⟨fun a U g mk q => ⟨q.1, rB_bl q.2⟩, rU_rv hr_q20, fun U hU hW => ⟨rfl, rB_mv hw hD (kA_in hkA hS hFc) hj_q20 hU hW⟩⟩ rfl rfl hl.1 rfl (lv_room (Nat.le_of_ble_eq_true rfl)) dX6_move_104 ⟨Nat.zero_le _, Nat.zero_le _⟩) hS (fun q _ h => hFc q h) hFc (fun r_104 f_2 t H1 locs ht hvm hw1 hB hz1 hk1 hS => ?_)
            obtain ⟨hP1, -, hD1⟩ := hB
            rw [ht] at hP1
            obtain ⟨hP, hD⟩ := cW_put hw.1 hD hj_q20 hP1 hk1
            generalize H1 = H at hP hS ⊢
            obtain ⟨S_3, e_S_3⟩ : ∃ z : CSt, z = (cset_bt S x3.toNatClampNeg f_2) := ⟨_, rfl⟩
            rw [← e_S_3] at hP hD
            have hw : cH dC dI ad o rw so ba ma cR cJ S_3 s H := ⟨hP, hK⟩
            have hk := kA_at hkA hS
            have hI : cInv S_3 := by rw [e_S_3]; exact hI
            have hf : f_X6_move S x1 x2 x3 x4 x5 = (f_X6_move_1 (f_X6_answer S_3 r_104)) := by rw [e_S_3]; exact hf.trans (congrArg (fun z => (f_X6_move_2 S x3 z)) hw1.symm)
            have hFc := va_freeAll hD hS hA
            refine va_calli (va_runV (As := [.int r_104]) (rest := []) ⟨hx, hb, hml, hown, hts⟩ (c_X6_answer l dC dI ad o rw so ba ma cR cJ H.size S_3 r_104) (cwV 1 hts (gV iX6_answer (zin__r3 (.methodLink RX6 48 yX6_answer) (List.mem_of_getElem? (i := 0) rfl))) rfl rfl rfl (by decide +kernel) ⟨Nat.le_of_ble_eq_true rfl, Nat.le_of_ble_eq_true rfl⟩) ⟨fun a U g mk q => ⟨q.1, cB_bl q.2⟩, cW_rv hw, fun U hU hW => ⟨rfl, cB_mv hw hD (kA_in hkA hS hFc) hU hW⟩⟩ rfl rfl hl.1 rfl (lv_room (Nat.le_of_ble_eq_true rfl)) dX6_move_107 ⟨Nat.zero_le _, Nat.zero_le _⟩) hS (fun q _ h => hFc q h) hFc (fun r_107 S_4 t H1 locs ht hvm hw1 hB hz1 hk1 hS => ?_)
            obtain ⟨hP, -, hD1⟩ := hB
            rw [ht] at hP
            have hD := hD1.weaken (fun k q _ h => hFc q.1 h)
            generalize H1 = H at hP hS ⊢
            have hw : cH dC dI ad o rw so ba ma cR cJ S_4 s H := ⟨hP, hK⟩
            have hk := kA_at hkA hS
            have hf : f_X6_move S x1 x2 x3 x4 x5 = (r_107, S_4) := hf.trans (congrArg (fun z => (f_X6_move_1 z)) hw1.symm)
            exact W.iret hx hb hr (fun t ht hW => ⟨⟨_, S_4, rfl, hf.symm, by rw [ht]; exact hP, va_K.moved hW.alike hK, hD⟩, hS.F ht⟩) hS.2.2 dX6_move_110
          · have c_65 : ¬ ((ckd S x1.toNatClampNeg) = (ckd S x3.toNatClampNeg)) := fun h9 => c_65 (congrArg (fun z => some (ad z)) h9)
            have hf : f_X6_move S x1 x2 x3 x4 x5 = (f_X6_move_3 x5 S x3 x4 x1 x2) := hf.trans (if_neg c_65)
            refine lv_iload hx hb dX6_move_68 (lv_at hl 7 rfl) ?_
            refine lv_if_ne (tgt := 79) hx hb dX6_move_70 (by decide) (fun c_70 => ?_) (fun c_70 => ?_)
            · have hf : f_X6_move S x1 x2 x3 x4 x5 = (f_X6_move_2 S x3 (f_X3_put (cbt S x3.toNatClampNeg) (ckd S x3.toNatClampNeg) x4 (f_X2_turned (ckd S x1.toNatClampNeg) ((cbt S x1.toNatClampNeg) x2.toNatClampNeg) (ckd S x3.toNatClampNeg)))) := hf.trans (if_neg c_70)
              refine lv_aload_n hx hb dX6_move_79 rfl (lv_at hl 2 rfl) ?_
              refine lv_aload hx hb dX6_move_80 (lv_at hl 0 rfl) ?_
              refine lv_iload hx hb dX6_move_82 (lv_at hl 6 rfl) ?_
              refine lv_aload hx hb dX6_move_84 (lv_at hl 1 rfl) ?_
              refine gf_H hx hb hr_q2.2.1 hown (hts _ (zin__r3 (.fieldLink RX6 59 "ReckonBench$Row" "kind" "LReckonBench$Kind;") (List.mem_of_getElem? (i := 8) rfl))) (fun _ h9 => h9) dX6_move_86 ?_
              refine lv_aload hx hb dX6_move_89 (lv_at hl 1 rfl) ?_
              refine gf_H hx hb hr_q2.2.2.1 hown (hts _ (zin__r5 (.fieldLink RX6 80 "ReckonBench$Row" "numbers" "[J") (List.mem_of_getElem? (i := 4) rfl))) (fun _ h9 => h9) dX6_move_91 ?_
              refine lv_iload_n hx hb dX6_move_94 rfl (lv_at hl 4 rfl) ?_
              refine tl_H hx hb hr_q2.2.2.2 (has_in hn_q2 c_36) (v := .long ((cbt S x1.toNatClampNeg) x2.toNatClampNeg)) rfl dX6_move_95 ?_
              refine lv_aload hx hb dX6_move_96 (lv_at hl 0 rfl) ?_
              refine gf_H hx hb hr_q20.2.1 hown (hts _ (zin__r3 (.fieldLink RX6 59 "ReckonBench$Row" "kind" "LReckonBench$Kind;") (List.mem_of_getElem? (i := 8) rfl))) (fun _ h9 => h9) dX6_move_98 ?_
              refine vp_callSl (va_Run.run (va_runS (As := [.ref (ad (ckd S x1.toNatClampNeg)), .long ((cbt S x1.toNatClampNeg) x2.toNatClampNeg), .ref (ad (ckd S x3.toNatClampNeg))]) (rest := [.int x4, .ref (cro S x3.toNatClampNeg), .ref o]) ⟨hx, hb, hml, hown, hts⟩ (c_X2_turned l ad (ckd S x1.toNatClampNeg) hkq_q2 ((cbt S x1.toNatClampNeg) x2.toNatClampNeg) (ckd S x3.toNatClampNeg) hkq_q20) (va_cwS 3 hts (gS iX2_turned (zin__r12 (.methodLink RX6 190 yX2_turned) (List.mem_of_getElem? (i := 12) rfl))) rfl rfl rfl (by decide +kernel) ⟨Nat.le_of_ble_eq_true rfl, Nat.le_of_ble_eq_true rfl⟩) ⟨fun a U g mk q => ⟨q.1, kU_bl q.2⟩, fun U hU hW => ⟨rfl, kU_mvH hk hU hW⟩⟩ rfl rfl hl.1 rfl (lv_room (Nat.le_of_ble_eq_true rfl)) dX6_move_101 ⟨Nat.zero_le _, Nat.zero_le _⟩)) (fun r_101 hr_101 => ?_)
              subst hr_101
              have hFc := cRow_free (j := x3.toNatClampNeg) hD hS hA hj_q20
              refine va_calli (va_runV (As := [.int x4, .long (f_X2_turned (ckd S x1.toNatClampNeg) ((cbt S x1.toNatClampNeg) x2.toNatClampNeg) (ckd S x3.toNatClampNeg))]) (rest := [.ref o]) ⟨hx, hb, hml, hown, hts⟩ (c_X3_put l dC dI ad (cro S x3.toNatClampNeg) (ckd S x3.toNatClampNeg) (cna S x3.toNatClampNeg) (cln S x3.toNatClampNeg) hkq_q20 cJ s.heap.size (cbt S x3.toNatClampNeg) x4 (f_X2_turned (ckd S x1.toNatClampNeg) ((cbt S x1.toNatClampNeg) x2.toNatClampNeg) (ckd S x3.toNatClampNeg)) (has_in hn_q20 c_46)) (cwV 2 hts (gV iX3_put (zin__r4 (.methodLink RX6 66 yX3_put) (List.mem_of_getElem? (i := 9) rfl))) rfl rfl rfl (by decide +kernel) ⟨Nat.le_of_ble_eq_true rfl, Nat.le_of_ble_eq_true rfl⟩) ⟨fun a U g mk q => ⟨q.1, rB_bl q.2⟩, rU_rv hr_q20, fun U hU hW => ⟨rfl, rB_mv hw hD (kA_in hkA hS hFc) hj_q20 hU hW⟩⟩ rfl rfl hl.1 rfl (lv_room (Nat.le_of_ble_eq_true rfl)) dX6_move_104 ⟨Nat.zero_le _, Nat.zero_le _⟩) hS (fun q _ h => hFc q h) hFc (fun r_104 f_5 t H1 locs ht hvm hw1 hB hz1 hk1 hS => ?_)
              obtain ⟨hP1, -, hD1⟩ := hB
              rw [ht] at hP1
              obtain ⟨hP, hD⟩ := cW_put hw.1 hD hj_q20 hP1 hk1
              generalize H1 = H at hP hS ⊢
              obtain ⟨S_6, e_S_6⟩ : ∃ z : CSt, z = (cset_bt S x3.toNatClampNeg f_5) := ⟨_, rfl⟩
              rw [← e_S_6] at hP hD
              have hw : cH dC dI ad o rw so ba ma cR cJ S_6 s H := ⟨hP, hK⟩
              have hk := kA_at hkA hS
              have hI : cInv S_6 := by rw [e_S_6]; exact hI
              have hf : f_X6_move S x1 x2 x3 x4 x5 = (f_X6_move_1 (f_X6_answer S_6 r_104)) := by rw [e_S_6]; exact hf.trans (congrArg (fun z => (f_X6_move_2 S x3 z)) hw1.symm)
              have hFc := va_freeAll hD hS hA
              refine va_calli (va_runV (As := [.int r_104]) (rest := []) ⟨hx, hb, hml, hown, hts⟩ (c_X6_answer l dC dI ad o rw so ba ma cR cJ H.size S_6 r_104) (cwV 1 hts (gV iX6_answer (zin__r3 (.methodLink RX6 48 yX6_answer) (List.mem_of_getElem? (i := 0) rfl))) rfl rfl rfl (by decide +kernel) ⟨Nat.le_of_ble_eq_true rfl, Nat.le_of_ble_eq_true rfl⟩) ⟨fun a U g mk q => ⟨q.1, cB_bl q.2⟩, cW_rv hw, fun U hU hW => ⟨rfl, cB_mv hw hD (kA_in hkA hS hFc) hU hW⟩⟩ rfl rfl hl.1 rfl (lv_room (Nat.le_of_ble_eq_true rfl)) dX6_move_107 ⟨Nat.zero_le _, Nat.zero_le _⟩) hS (fun q _ h => hFc q h) hFc (fun r_107 S_7 t H1 locs ht hvm hw1 hB hz1 hk1 hS => ?_)
              obtain ⟨hP, -, hD1⟩ := hB
              rw [ht] at hP
              have hD := hD1.weaken (fun k q _ h => hFc q.1 h)
              generalize H1 = H at hP hS ⊢
              have hw : cH dC dI ad o rw so ba ma cR cJ S_7 s H := ⟨hP, hK⟩
              have hk := kA_at hkA hS
              have hf : f_X6_move S x1 x2 x3 x4 x5 = (r_107, S_7) := hf.trans (congrArg (fun z => (f_X6_move_1 z)) hw1.symm)
              exact W.iret hx hb hr (fun t ht hW => ⟨⟨_, S_7, rfl, hf.symm, by rw [ht]; exact hP, va_K.moved hW.alike hK, hD⟩, hS.F ht⟩) hS.2.2 dX6_move_110
            · have hf : f_X6_move S x1 x2 x3 x4 x5 = (f_X6_move_1 (f_X6_refuse S (3 : Int32))) := hf.trans (if_pos c_70)
              refine lv_aload_n hx hb dX6_move_73 rfl (lv_at hl 2 rfl) ?_
              refine lv_iconst (v := 3) hx hb dX6_move_74 (by decide) ?_
              have hFc := va_freeAll hD hS hA
              refine va_calli (va_runV (As := [.int (3 : Int32)]) (rest := []) ⟨hx, hb, hml, hown, hts⟩ (c_X6_refuse l dC dI ad o rw so ba ma cR cJ s.heap.size S (3 : Int32)) (cwV 1 hts (gV iX6_refuse (zin__r2 (.methodLink RX6 32 yX6_refuse) (List.mem_of_getElem? (i := 14) rfl))) rfl rfl rfl (by decide +kernel) ⟨Nat.le_of_ble_eq_true rfl, Nat.le_of_ble_eq_true rfl⟩) ⟨fun a U g mk q => ⟨q.1, cB_bl q.2⟩, cW_rv hw, fun U hU hW => ⟨rfl, cB_mv hw hD (kA_in hkA hS hFc) hU hW⟩⟩ rfl rfl hl.1 rfl (lv_room (Nat.le_of_ble_eq_true rfl)) dX6_move_75 ⟨Nat.zero_le _, Nat.zero_le _⟩) hS (fun q _ h => hFc q h) hFc (fun r_75 S_8 t H1 locs ht hvm hw1 hB hz1 hk1 hS => ?_)
              obtain ⟨hP, -, hD1⟩ := hB
              rw [ht] at hP
              have hD := hD1.weaken (fun k q _ h => hFc q.1 h)
              generalize H1 = H at hP hS ⊢
              have hw : cH dC dI ad o rw so ba ma cR cJ S_8 s H := ⟨hP, hK⟩
              have hk := kA_at hkA hS
              have hf : f_X6_move S x1 x2 x3 x4 x5 = (r_75, S_8) := hf.trans (congrArg (fun z => (f_X6_move_1 z)) hw1.symm)
              exact W.iret hx hb hr (fun t ht hW => ⟨⟨_, S_8, rfl, hf.symm, by rw [ht]; exact hP, va_K.moved hW.alike hK, hD⟩, hS.F ht⟩) hS.2.2 dX6_move_78
        · have hf : f_X6_move S x1 x2 x3 x4 x5 = (f_X6_move_1 (f_X6_refuse S (2 : Int32))) := hf.trans (if_pos c_46)
          refine lv_aload_n hx hb dX6_move_49 rfl (lv_at hl 2 rfl) ?_
          refine lv_iconst (v := 2) hx hb dX6_move_50 (by decide) ?_
          have hFc := va_freeAll hD hS hA
          refine va_calli (va_runV (As := [.int (2 : Int32)]) (rest := []) ⟨hx, hb, hml, hown, hts⟩ (c_X6_refuse l dC dI ad o rw so ba ma cR cJ s.heap.size S (2 : Int32)) (cwV 1 hts (gV iX6_refuse (zin__r2 (.methodLink RX6 32 yX6_refuse) (List.mem_of_getElem? (i := 14) rfl))) rfl rfl rfl (by decide +kernel) ⟨Nat.le_of_ble_eq_true rfl, Nat.le_of_ble_eq_true rfl⟩) ⟨fun a U g mk q => ⟨q.1, cB_bl q.2⟩, cW_rv hw, fun U hU hW => ⟨rfl, cB_mv hw hD (kA_in hkA hS hFc) hU hW⟩⟩ rfl rfl hl.1 rfl (lv_room (Nat.le_of_ble_eq_true rfl)) dX6_move_51 ⟨Nat.zero_le _, Nat.zero_le _⟩) hS (fun q _ h => hFc q h) hFc (fun r_51 S_9 t H1 locs ht hvm hw1 hB hz1 hk1 hS => ?_)
          obtain ⟨hP, -, hD1⟩ := hB
          rw [ht] at hP
          have hD := hD1.weaken (fun k q _ h => hFc q.1 h)
          generalize H1 = H at hP hS ⊢
          have hw : cH dC dI ad o rw so ba ma cR cJ S_9 s H := ⟨hP, hK⟩
          have hk := kA_at hkA hS
          have hf : f_X6_move S x1 x2 x3 x4 x5 = (r_51, S_9) := hf.trans (congrArg (fun z => (f_X6_move_1 z)) hw1.symm)
          exact W.iret hx hb hr (fun t ht hW => ⟨⟨_, S_9, rfl, hf.symm, by rw [ht]; exact hP, va_K.moved hW.alike hK, hD⟩, hS.F ht⟩) hS.2.2 dX6_move_54
    · rw [if_neg c_20] at hr_20
      subst hr_20
      have hf : f_X6_move S x1 x2 x3 x4 x5 = (f_X6_move_1 (f_X6_refuse S (2 : Int32))) := hf.trans (if_neg c_20)
      refine lv_astoreN (lv' := [(7, .null), (6, .ref (cro S x1.toNatClampNeg)), (0, .ref o), (1, .int x1), (2, .int x2), (3, .int x3), (4, .int x4), (5, .int x5)]) hx hb dX6_move_23 hl (by decide) rfl (fun ls hl => ?_)
      refine lv_aloadN hx hb dX6_move_25 (lv_at hl 0 rfl) ?_
      refine lv_ifnullN (tgt := 49) hx hb dX6_move_27 (by decide) ?_
      refine lv_aload_n hx hb dX6_move_49 rfl (lv_at hl 2 rfl) ?_
      refine lv_iconst (v := 2) hx hb dX6_move_50 (by decide) ?_
      have hFc := va_freeAll hD hS hA
      refine va_calli (va_runV (As := [.int (2 : Int32)]) (rest := []) ⟨hx, hb, hml, hown, hts⟩ (c_X6_refuse l dC dI ad o rw so ba ma cR cJ s.heap.size S (2 : Int32)) (cwV 1 hts (gV iX6_refuse (zin__r2 (.methodLink RX6 32 yX6_refuse) (List.mem_of_getElem? (i := 14) rfl))) rfl rfl rfl (by decide +kernel) ⟨Nat.le_of_ble_eq_true rfl, Nat.le_of_ble_eq_true rfl⟩) ⟨fun a U g mk q => ⟨q.1, cB_bl q.2⟩, cW_rv hw, fun U hU hW => ⟨rfl, cB_mv hw hD (kA_in hkA hS hFc) hU hW⟩⟩ rfl rfl hl.1 rfl (lv_room (Nat.le_of_ble_eq_true rfl)) dX6_move_51 ⟨Nat.zero_le _, Nat.zero_le _⟩) hS (fun q _ h => hFc q h) hFc (fun r_51 S_10 t H1 locs ht hvm hw1 hB hz1 hk1 hS => ?_)
      obtain ⟨hP, -, hD1⟩ := hB
      rw [ht] at hP
      have hD := hD1.weaken (fun k q _ h => hFc q.1 h)
      generalize H1 = H at hP hS ⊢
      have hw : cH dC dI ad o rw so ba ma cR cJ S_10 s H := ⟨hP, hK⟩
      have hk := kA_at hkA hS
      have hf : f_X6_move S x1 x2 x3 x4 x5 = (r_51, S_10) := hf.trans (congrArg (fun z => (f_X6_move_1 z)) hw1.symm)
      exact W.iret hx hb hr (fun t ht hW => ⟨⟨_, S_10, rfl, hf.symm, by rw [ht]; exact hP, va_K.moved hW.alike hK, hD⟩, hS.F ht⟩) hS.2.2 dX6_move_54
  · rw [if_neg c_2] at hr_2
    subst hr_2
    have hf : f_X6_move S x1 x2 x3 x4 x5 = (f_X6_move_1 (f_X6_refuse S (1 : Int32))) := hf.trans (if_neg c_2)
    refine lv_astoreN (lv' := [(6, .null), (0, .ref o), (1, .int x1), (2, .int x2), (3, .int x3), (4, .int x4), (5, .int x5)]) hx hb dX6_move_5 hl (by decide) rfl (fun ls hl => ?_)
    refine lv_aloadN hx hb dX6_move_7 (lv_at hl 0 rfl) ?_
    refine lv_ifnonnullN hx hb dX6_move_9 ?_
    refine lv_aload_n hx hb dX6_move_12 rfl (lv_at hl 1 rfl) ?_
    refine lv_iconst (v := 1) hx hb dX6_move_13 (by decide) ?_
    have hFc := va_freeAll hD hS hA
    refine va_calli (va_runV (As := [.int (1 : Int32)]) (rest := []) ⟨hx, hb, hml, hown, hts⟩ (c_X6_refuse l dC dI ad o rw so ba ma cR cJ s.heap.size S (1 : Int32)) (cwV 1 hts (gV iX6_refuse (zin__r2 (.methodLink RX6 32 yX6_refuse) (List.mem_of_getElem? (i := 14) rfl))) rfl rfl rfl (by decide +kernel) ⟨Nat.le_of_ble_eq_true rfl, Nat.le_of_ble_eq_true rfl⟩) ⟨fun a U g mk q => ⟨q.1, cB_bl q.2⟩, cW_rv hw, fun U hU hW => ⟨rfl, cB_mv hw hD (kA_in hkA hS hFc) hU hW⟩⟩ rfl rfl hl.1 rfl (lv_room (Nat.le_of_ble_eq_true rfl)) dX6_move_14 ⟨Nat.zero_le _, Nat.zero_le _⟩) hS (fun q _ h => hFc q h) hFc (fun r_14 S_11 t H1 locs ht hvm hw1 hB hz1 hk1 hS => ?_)
    obtain ⟨hP, -, hD1⟩ := hB
    rw [ht] at hP
    have hD := hD1.weaken (fun k q _ h => hFc q.1 h)
    generalize H1 = H at hP hS ⊢
    have hw : cH dC dI ad o rw so ba ma cR cJ S_11 s H := ⟨hP, hK⟩
    have hk := kA_at hkA hS
    have hf : f_X6_move S x1 x2 x3 x4 x5 = (r_14, S_11) := hf.trans (congrArg (fun z => (f_X6_move_1 z)) hw1.symm)
    exact W.iret hx hb hr (fun t ht hW => ⟨⟨_, S_11, rfl, hf.symm, by rw [ht]; exact hP, va_K.moved hW.alike hK, hD⟩, hS.F ht⟩) hS.2.2 dX6_move_17

