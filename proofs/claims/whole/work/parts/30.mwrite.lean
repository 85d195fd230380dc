def f_X7_no (S : MSt) (x1 : Int32) : Int32 × MSt := ((-9 : Int32), (mset_s S x1))
def zX7_no : List Cond := .code yX7_no cX7_no 2 (some .int) :: zall
theorem iX7_no : MWv RX7 yX7_no (.code yX7_no cX7_no 2 (some .int)) := ⟨(zin__r4 (.instanceMethod yX7_no) (List.mem_of_getElem? (i := 15) rfl)), (zin__r4 (.selects RX7 yX7_no yX7_no) (List.mem_of_getElem? (i := 16) rfl)), (zin__r1 (.initialized RX7) (List.mem_of_getElem? (i := 5) rfl)), (zin__r4 (.code yX7_no cX7_no 2 (some .int)) (List.mem_of_getElem? (i := 17) rfl))⟩
set_option maxHeartbeats 4000000 in
set_option maxRecDepth 100000 in
theorem c_X7_no (l : Launch) (dC : Nat → ClassId) (dI : Nat → Nat → Nat) (o : Nat) (r : Nat → Nat) (cI cJ : ClassId) (sz : Nat) (S : MSt) (x1 : Int32) : Met l yX7_no zX7_no ({ frames := 0, cells := 0, slots := 0, locals := 0 }) (va_Pc [.ref o, .int x1] (fun U => mB dC dI o r cI cJ sz S U)) (va_Qi (fun r9 S9 => (r9, S9) = f_X7_no S x1) (mE dC dI o r cI cJ (va_A (mWs o r cI cJ S) sz)) (va_A (mWs o r cI cJ S) sz)) 0 0 (va_A (mWs o r cI cJ S) sz) := by
  refine Met.ofW (cc := cX7_no) (maxL := 2) (ret := (some .int)) (by decide) rfl ?_
  intro p e s m args below meth c s₁ B hml hv
  obtain ⟨rfl, hsz, hP, hK, hD0⟩ := hv
  have hx := B.exec
  have hb := B.bytes
  have hr := B.returns
  have hts : ∀ w ∈ zall, w.before _ s = true := fun w h => atoms_spec (ws := zX7_no) B.pre w (List.mem_cons_of_mem _ h)
  have hown : s.vm.findClass RX7 = some m.cls := findClass_of_methodNamed B.named
  have hlocks := B.notSynchronized
  subst hsz
  have hD := hD0.self (sz := s.heap.size)
  generalize hAe : va_A (mWs o r cI cJ S) s.heap.size = A at hD ⊢
  have hA : ∀ q : Nat, s.heap.size ≤ q → A q := fun q h => by rw [← hAe]; exact Or.inr h
  have hS : va_S A s.heap s.heap [] := va_S.rf
  have hw : mH dC dI o r cI cJ S s s.heap := ⟨hP, hK⟩
  have hm := mA_of hts hw
  have hl := lv_entry ([.ref o, .int x1]) (n := 2) (Nat.le_of_ble_eq_true rfl)
  rw [lg_entry_eq]
  generalize (lg_sl ([.ref o, .int x1]) ++ List.replicate (2 - (lg_sl ([.ref o, .int x1])).length) Slot.unset).toArray = ls at hl ⊢
  have hl : lv_has ls 2 [(0, .ref o), (1, .int x1)] := hl
  have hf : f_X7_no S x1 = ((-9 : Int32), (mset_s S x1)) := rfl
  refine lv_aload_n hx hb dX7_no_0 rfl (lv_at hl 0 rfl) ?_
  refine lv_iload_n hx hb dX7_no_1 rfl (lv_at hl 1 rfl) ?_
  refine va_put (D := (dC, dI)) (ci := 5) (v := .int x1) (ty := .int) (C := RX7) (T := TX7) (N := 18) hx hb hts zin_X7 tyX7 tyX7_ok nmX7 hown hK hP hD hS 0 rfl rfl 17 (by decide) (hts _ (zin__r4 (.fieldLink RX7 75 "ReckonBenchModel" "status" "I") (List.mem_of_getElem? (i := 13) rfl))) (fun _ h9 => h9) rfl (by decide +kernel) rfl rfl (Nat.le_of_ble_eq_true rfl) dX7_no_2 (fun H locs hP hD hS => ?_)
  obtain ⟨S_1, e_S_1⟩ : ∃ z : MSt, z = (mset_s S x1) := ⟨_, rfl⟩
  have hP : va_P (dC, dI) vwCl (mWs o r cI cJ S_1) H := by rw [e_S_1]; exact hP
  have hD : va_D A (mWs o r cI cJ S_1) := by rw [e_S_1]; exact hD
  have hw : mH dC dI o r cI cJ S_1 s H := ⟨hP, hK⟩
  have hm := mA_of hts hw
  have hf : f_X7_no S x1 = ((-9 : Int32), S_1) := hf.trans (congrArg (fun z => ((-9 : Int32), z)) e_S_1.symm)
  refine lv_bipush (v := -9) hx hb dX7_no_5 (by decide) ?_
  exact W.iret hx hb hr (fun t ht hW => ⟨⟨_, S_1, rfl, hf.symm, by rw [ht]; exact hP, va_K.moved hW.alike hK, hD⟩, hS.F ht⟩) hS.2.2 dX7_no_7
def f_X7_keep_1 (S_1 : MSt) (x1 : Int32) (x3 : Int64) : Int32 × MSt := ((f_X7_sortOf (mk S_1 x1.toNatClampNeg) x3), S_1)
def f_X7_keep (S : MSt) (x1 : Int32) (x2 : Int32) (x3 : Int64) : Int32 × MSt := (f_X7_keep_1 (mset_b S (vp_updL (mb S) ((nI (mf S x1.toNatClampNeg)) + x2).toNatClampNeg x3)) x1 x3)
def zX7_keep : List Cond := .code yX7_keep cX7_keep 5 (some .int) :: zall
theorem iX7_keep : MWv RX7 yX7_keep (.code yX7_keep cX7_keep 5 (some .int)) := ⟨(zin__r7 (.instanceMethod yX7_keep) (List.mem_of_getElem? (i := 10) rfl)), (zin__r7 (.selects RX7 yX7_keep yX7_keep) (List.mem_of_getElem? (i := 11) rfl)), (zin__r1 (.initialized RX7) (List.mem_of_getElem? (i := 5) rfl)), (zin__r7 (.code yX7_keep cX7_keep 5 (some .int)) (List.mem_of_getElem? (i := 12) rfl))⟩
set_option maxHeartbeats 4000000 in
set_option maxRecDepth 100000 in
theorem c_X7_keep (l : Launch) (dC : Nat → ClassId) (dI : Nat → Nat → Nat) (o : Nat) (r : Nat → Nat) (cI cJ : ClassId) (sz : Nat) (S : MSt) (x1 : Int32) (x2 : Int32) (x3 : Int64) (hI : mInv S) (hL : mPl S x1 x2) : Met l yX7_keep zX7_keep ({ frames := 3, cells := 0, slots := 0, locals := 69 }) (va_Pc [.ref o, .int x1, .int x2, .long x3] (fun U => mB dC dI o r cI cJ sz S U)) (va_Qi (fun r9 S9 => (r9, S9) = f_X7_keep S x1 x2 x3) (mE dC dI o r cI cJ (va_A (mWs o r cI cJ S) sz)) (va_A (mWs o r cI cJ S) sz)) 0 0 (va_A (mWs o r cI cJ S) sz) := by
  refine Met.ofW (cc := cX7_keep) (maxL := 5) (ret := (some .int)) (by decide) rfl ?_
  intro p e s m args below meth c s₁ B hml hv
  obtain ⟨rfl, hsz, hP, hK, hD0⟩ := hv
  have hx := B.exec
  have hb := B.bytes
  have hr := B.returns
  have hts : ∀ w ∈ zall, w.before _ s = true := fun w h => atoms_spec (ws := zX7_keep) B.pre w (List.mem_cons_of_mem _ h)
  have hown : s.vm.findClass RX7 = some m.cls := findClass_of_methodNamed B.named
  have hlocks := B.notSynchronized
  subst hsz
  have hD := hD0.self (sz := s.heap.size)
  generalize hAe : va_A (mWs o r cI cJ S) s.heap.size = A at hD ⊢
  have hA : ∀ q : Nat, s.heap.size ≤ q → A q := fun q h => by rw [← hAe]; exact Or.inr h
  have hS : va_S A s.heap s.heap [] := va_S.rf
  have hw : mH dC dI o r cI cJ S s s.heap := ⟨hP, hK⟩
  have hm := mA_of hts hw
  have hl := lv_entry ([.ref o, .int x1, .int x2, .long x3]) (n := 5) (Nat.le_of_ble_eq_true rfl)
  rw [lg_entry_eq]
  generalize (lg_sl ([.ref o, .int x1, .int x2, .long x3]) ++ List.replicate (5 - (lg_sl ([.ref o, .int x1, .int x2, .long x3])).length) Slot.unset).toArray = ls at hl ⊢
  have hl : lv_has ls 5 [(0, .ref o), (1, .int x1), (2, .int x2), (3, .long x3)] := hl
  have hf : f_X7_keep S x1 x2 x3 = (f_X7_keep_1 (mset_b S (vp_updL (mb S) ((nI (mf S x1.toNatClampNeg)) + x2).toNatClampNeg x3)) x1 x3) := rfl
  refine lv_aload_n hx hb dX7_keep_0 rfl (lv_at hl 0 rfl) ?_
  refine va_get (D := (dC, dI)) (ci := 5) (v := .ref (r 9)) (C := RX7) (T := TX7) (N := 18) hx hb hts zin_X7 hown hK hP 0 rfl rfl 9 (by decide) (hts _ (zin__r3 (.fieldLink RX7 54 "ReckonBenchModel" "bits" "[J") (List.mem_of_getElem? (i := 3) rfl))) (fun _ h9 => h9) rfl dX7_keep_1 ?_
  refine lv_aload_n hx hb dX7_keep_4 rfl (lv_at hl 0 rfl) ?_
  refine va_get (D := (dC, dI)) (ci := 5) (v := .ref (r 7)) (C := RX7) (T := TX7) (N := 18) hx hb hts zin_X7 hown hK hP 0 rfl rfl 7 (by decide) (hts _ (zin__r3 (.fieldLink RX7 48 "ReckonBenchModel" "first" "[I") (List.mem_of_getElem? (i := 1) rfl))) (fun _ h9 => h9) rfl dX7_keep_5 ?_
  refine lv_iload_n hx hb dX7_keep_8 rfl (lv_at hl 1 rfl) ?_
  have hin9 : vp_in x1 64 := mRow.in2 hI (mPl.row hL)
  have hk9 : mk S x1.toNatClampNeg < 2 := mRow.k hI (mPl.row hL)
  refine va_iald (f := fun j => nI (mf S j)) hx hb hK hP 8 0 rfl rfl (mRow.in0 hI (mPl.row hL)) dX7_keep_9 ?_
  refine lv_iload_n hx hb dX7_keep_10 rfl (lv_at hl 2 rfl) ?_
  refine lv_iadd hx hb dX7_keep_11 ?_
  refine lv_lload_n hx hb dX7_keep_12 rfl (lv_at hl 3 rfl) ?_
  refine va_last (f := mb S) hx hb hK hP hD hS 10 1 rfl rfl (mPl.at hI hL) dX7_keep_13 (fun H locs hP hD hS => ?_)
  obtain ⟨S_1, e_S_1⟩ : ∃ z : MSt, z = (mset_b S (vp_updL (mb S) ((nI (mf S x1.toNatClampNeg)) + x2).toNatClampNeg x3)) := ⟨_, rfl⟩
  have hP : va_P (dC, dI) vwCl (mWs o r cI cJ S_1) H := by rw [e_S_1]; exact hP
  have hD : va_D A (mWs o r cI cJ S_1) := by rw [e_S_1]; exact hD
  have hw : mH dC dI o r cI cJ S_1 s H := ⟨hP, hK⟩
  have hm := mA_of hts hw
  have hL : mPl S_1 x1 x2 := by rw [e_S_1]; exact hL
  have hk9 : mk S_1 x1.toNatClampNeg < 2 := by rw [e_S_1]; exact hk9
  have hf : f_X7_keep S x1 x2 x3 = (f_X7_keep_1 S_1 x1 x3) := hf.trans (congrArg (fun z => (f_X7_keep_1 z x1 x3)) e_S_1.symm)
  refine lv_aload_n hx hb dX7_keep_14 rfl (lv_at hl 0 rfl) ?_
  refine lv_aload_n hx hb dX7_keep_15 rfl (lv_at hl 0 rfl) ?_
  refine va_get (D := (dC, dI)) (ci := 5) (v := .ref (r 8)) (C := RX7) (T := TX7) (N := 18) hx hb hts zin_X7 hown hK hP 0 rfl rfl 8 (by decide) (hts _ (zin__r3 (.fieldLink RX7 51 "ReckonBenchModel" "kinds" "[I") (List.mem_of_getElem? (i := 2) rfl))) (fun _ h9 => h9) rfl dX7_keep_16 ?_
  refine lv_iload_n hx hb dX7_keep_19 rfl (lv_at hl 1 rfl) ?_
  refine va_iald (f := fun j => nI (mk S_1 j)) hx hb hK hP 9 0 rfl rfl hin9 dX7_keep_20 ?_
  refine lv_lload_n hx hb dX7_keep_21 rfl (lv_at hl 3 rfl) ?_
  refine vp_callSi (va_Run.run (va_runV (As := [.int (nI (mk S_1 x1.toNatClampNeg)), .long x3]) (rest := []) ⟨hx, hb, hml, hown, hts⟩ (c_X7_sortOf l o r (mk S_1 x1.toNatClampNeg) hk9 x3) (cwV 2 hts (gV iX7_sortOf (zin__r7 (.methodLink RX7 86 yX7_sortOf) (List.mem_of_getElem? (i := 13) rfl))) rfl rfl rfl (by decide +kernel) ⟨Nat.le_of_ble_eq_true rfl, Nat.le_of_ble_eq_true rfl⟩) ⟨fun a U g mk q => ⟨q.1, mU_bl q.2⟩, (mW_rv hw), fun U hU hW => ⟨rfl, mU_mvH hm hU hW⟩⟩ rfl rfl hl.1 rfl (lv_room (Nat.le_of_ble_eq_true rfl)) dX7_keep_22 ⟨Nat.zero_le _, Nat.zero_le _⟩)) (fun r_22 hr_22 => ?_)
  subst hr_22
  exact W.iret hx hb hr (fun t ht hW => ⟨⟨_, S_1, rfl, hf.symm, by rw [ht]; exact hP, va_K.moved hW.alike hK, hD⟩, hS.F ht⟩) hS.2.2 dX7_keep_25
def f_X7_set_1 (p9 : Int32 × MSt) : Int32 × MSt := (p9.1, p9.2)
def f_X7_set_2 (S_2 : MSt) (x1 : Int32) (x2 : Int32) (x3 : Int64) : Int32 × MSt := (f_X7_set_1 (f_X7_keep S_2 x1 x2 (f_X7_clean (mk S_2 x1.toNatClampNeg) x3)))
def f_X7_set_3 (v5_1 : Int32) (S : MSt) (x1 : Int32) (x2 : Int32) (x3 : Int64) : Int32 × MSt := if v5_1 ≤ 0 then (f_X7_set_2 (mset_s S (0 : Int32)) x1 x2 x3) else (f_X7_set_1 (f_X7_no S v5_1))
def f_X7_set (S : MSt) (x1 : Int32) (x2 : Int32) (x3 : Int64) : Int32 × MSt := (f_X7_set_3 (f_X7_bad S x1 x2) S x1 x2 x3)
def zX7_set : List Cond := .code yX7_set cX7_set 6 (some .int) :: zall
theorem iX7_set : MWv RX7 yX7_set (.code yX7_set cX7_set 6 (some .int)) := ⟨(zin__r6 (.instanceMethod yX7_set) (List.mem_of_getElem? (i := 12) rfl)), (zin__r6 (.selects RX7 yX7_set yX7_set) (List.mem_of_getElem? (i := 13) rfl)), (zin__r1 (.initialized RX7) (List.mem_of_getElem? (i := 5) rfl)), (zin__r6 (.code yX7_set cX7_set 6 (some .int)) (List.mem_of_getElem? (i := 14) rfl))⟩
set_option maxHeartbeats 4000000 in
set_option maxRecDepth 100000 in
theorem c_X7_set (l : Launch) (dC : Nat → ClassId) (dI : Nat → Nat → Nat) (o : Nat) (r : Nat → Nat) (cI cJ : ClassId) (sz : Nat) (S : MSt) (x1 : Int32) (x2 : Int32) (x3 : Int64) (hI : mInv S) : Met l yX7_set zX7_set ({ frames := 4, cells := 0, slots := 0, locals := 93 }) (va_Pc [.ref o, .int x1, .int x2, .long x3] (fun U => mB dC dI o r cI cJ sz S U)) (va_Qi (fun r9 S9 => (r9, S9) = f_X7_set S x1 x2 x3) (mE dC dI o r cI cJ (va_A (mWs o r cI cJ S) sz)) (va_A (mWs o r cI cJ S) sz)) 0 0 (va_A (mWs o r cI cJ S) sz) := by
  refine Met.ofW (cc := cX7_set) (maxL := 6) (ret := (some .int)) (by decide) rfl ?_
  intro p e s m args below meth c s₁ B hml hv
  obtain ⟨rfl, hsz, hP, hK, hD0⟩ := hv
  have hx := B.exec
  have hb := B.bytes
  have hr := B.returns
  have hts : ∀ w ∈ zall, w.before _ s = true := fun w h => atoms_spec (ws := zX7_set) B.pre w (List.mem_cons_of_mem _ h)
  have hown : s.vm.findClass RX7 = some m.cls := findClass_of_methodNamed B.named
  have hlocks := B.notSynchronized
  subst hsz
  have hD := hD0.self (sz := s.heap.size)
  generalize hAe : va_A (mWs o r cI cJ S) s.heap.size = A at hD ⊢
  have hA : ∀ q : Nat, s.heap.size ≤ q → A q := fun q h => by rw [← hAe]; exact Or.inr h
  have hS : va_S A s.heap s.heap [] := va_S.rf
  have hw : mH dC dI o r cI cJ S s s.heap := ⟨hP, hK⟩
  have hm := mA_of hts hw
  have hl := lv_entry ([.ref o, .int x1, .int x2, .long x3]) (n := 6) (Nat.le_of_ble_eq_true rfl)
  rw [lg_entry_eq]
  generalize (lg_sl ([.ref o, .int x1, .int x2, .long x3]) ++ List.replicate (6 - (lg_sl ([.ref o, .int x1, .int x2, .long x3])).length) Slot.unset).toArray = ls at hl ⊢
  have hl : lv_has ls 6 [(0, .ref o), (1, .int x1), (2, .int x2), (3, .long x3)] := hl
  have hf : f_X7_set S x1 x2 x3 = (f_X7_set_3 (f_X7_bad S x1 x2) S x1 x2 x3) := rfl
  refine lv_aload_n hx hb dX7_set_0 rfl (lv_at hl 0 rfl) ?_
  refine lv_iload_n hx hb dX7_set_1 rfl (lv_at hl 1 rfl) ?_
  refine lv_iload_n hx hb dX7_set_2 rfl (lv_at hl 2 rfl) ?_
  refine vp_callSi (va_Run.run (va_runV (As := [.int x1, .int x2]) (rest := []) ⟨hx, hb, hml, hown, hts⟩ (c_X7_bad l dC dI o r cI cJ S x1 x2 hI) (cwV 2 hts (gV iX7_bad (zin__r6 (.methodLink RX7 142 yX7_bad) (List.mem_of_getElem? (i := 15) rfl))) rfl rfl rfl (by decide +kernel) ⟨Nat.le_of_ble_eq_true rfl, Nat.le_of_ble_eq_true rfl⟩) ⟨fun a U g mk q => ⟨q.1, mW_bl q.2⟩, (mW_rv hw), fun U hU hW => ⟨rfl, mW_mv hw hU hW⟩⟩ rfl rfl hl.1 rfl (lv_room (Nat.le_of_ble_eq_true rfl)) dX7_set_3 ⟨Nat.zero_le _, Nat.zero_le _⟩)) (fun r_3 hr_3 => ?_)
  subst hr_3
  refine lv_topi (fun v5_1 e_v5_1 => ?_)
  have hf : f_X7_set S x1 x2 x3 = (f_X7_set_3 v5_1 S x1 x2 x3) := hf.trans (congrArg (fun z => (f_X7_set_3 z S x1 x2 x3)) e_v5_1.symm)
  refine lv_istore (lv' := [(5, .int v5_1), (0, .ref o), (1, .int x1), (2, .int x2), (3, .long x3)]) hx hb dX7_set_6 hl (by decide) rfl (fun ls hl => ?_)
  refine lv_iload hx hb dX7_set_8 (lv_at hl 0 rfl) ?_
  refine lv_if_le (tgt := 20) hx hb dX7_set_10 (by decide) (fun c_10 => ?_) (fun c_10 => ?_)
  · have hf : f_X7_set S x1 x2 x3 = (f_X7_set_2 (mset_s S (0 : Int32)) x1 x2 x3) := hf.trans (if_pos c_10)
    have hL : mPl S x1 x2 := why_ok hI e_v5_1 c_10
    refine lv_aload_n hx hb dX7_set_20 rfl (lv_at hl 1 rfl) ?_
    refine lv_iconst (v := 0) hx hb dX7_set_21 (by decide) ?_
    refine va_put (D := (dC, dI)) (ci := 5) (v := .int (0 : Int32)) (ty := .int) (C := RX7) (T := TX7) (N := 18) hx hb hts zin_X7 tyX7 tyX7_ok nmX7 hown hK hP hD hS 0 rfl rfl 17 (by decide) (hts _ (zin__r4 (.fieldLink RX7 75 "ReckonBenchModel" "status" "I") (List.mem_of_getElem? (i := 13) rfl))) (fun _ h9 => h9) rfl (by decide +kernel) rfl rfl (Nat.le_of_ble_eq_true rfl) dX7_set_22 (fun H locs hP hD hS => ?_)
    obtain ⟨S_2, e_S_2⟩ : ∃ z : MSt, z = (mset_s S (0 : Int32)) := ⟨_, rfl⟩
    have hP : va_P (dC, dI) vwCl (mWs o r cI cJ S_2) H := by rw [e_S_2]; exact hP
    have hD : va_D A (mWs o r cI cJ S_2) := by rw [e_S_2]; exact hD
    have hw : mH dC dI o r cI cJ S_2 s H := ⟨hP, hK⟩
    have hm := mA_of hts hw
    have hI : mInv S_2 := by rw [e_S_2]; exact hI
    have hL : mPl S_2 x1 x2 := by rw [e_S_2]; exact hL
    have hf : f_X7_set S x1 x2 x3 = (f_X7_set_2 S_2 x1 x2 x3) := hf.trans (congrArg (fun z => (f_X7_set_2 z x1 x2 x3)) e_S_2.symm)
    refine lv_aload_n hx hb dX7_set_25 rfl (lv_at hl 1 rfl) ?_
    refine lv_iload_n hx hb dX7_set_26 rfl (lv_at hl 2 rfl) ?_
    refine lv_iload_n hx hb dX7_set_27 rfl (lv_at hl 3 rfl) ?_
    refine lv_aload_n hx hb dX7_set_28 rfl (lv_at hl 1 rfl) ?_
    refine lv_aload_n hx hb dX7_set_29 rfl (lv_at hl 1 rfl) ?_
    refine va_get (D := (dC, dI)) (ci := 5) (v := .ref (r 8)) (C := RX7) (T := TX7) (N := 18) hx hb hts zin_X7 hown hK hP 0 rfl rfl 8 (by decide) (hts _ (zin__r3 (.fieldLink RX7 51 "ReckonBenchModel" "kinds" "[I") (List.mem_of_getElem? (i := 2) rfl))) (fun _ h9 => h9) rfl dX7_set_30 ?_
    refine lv_iload_n hx hb dX7_set_33 rfl (lv_at hl 2 rfl) ?_
    refine va_iald (f := fun j => nI (mk S_2 j)) hx hb hK hP 9 0 rfl rfl (mRow.in2 hI (mPl.row hL)) dX7_set_34 ?_
    refine lv_lload_n hx hb dX7_set_35 rfl (lv_at hl 4 rfl) ?_
    refine vp_callSl (va_Run.run (va_runV (As := [.int (nI (mk S_2 x1.toNatClampNeg)), .long x3]) (rest := [.int x2, .int x1, .ref o]) ⟨hx, hb, hml, hown, hts⟩ (c_X7_clean l o r (mk S_2 x1.toNatClampNeg) (mRow.k hI (mPl.row hL)) x3) (cwV 2 hts (gV iX7_clean (zin__r6 (.methodLink RX7 146 yX7_clean) (List.mem_of_getElem? (i := 23) rfl))) rfl rfl rfl (by decide +kernel) ⟨Nat.le_of_ble_eq_true rfl, Nat.le_of_ble_eq_true rfl⟩) ⟨fun a U g mk q => ⟨q.1, mU_bl q.2⟩, (mW_rv hw), fun U hU hW => ⟨rfl, mU_mvH hm hU hW⟩⟩ rfl rfl hl.1 rfl (lv_room (Nat.le_of_ble_eq_true rfl)) dX7_set_36 ⟨Nat.zero_le _, Nat.zero_le _⟩)) (fun r_36 hr_36 => ?_)
    subst hr_36
    have hFc := va_free (wc := mWs o r cI cJ S_2) hD hS hA [0, 1, 2, 3, 4, 5, 6, 7, 8, 9, 10, 11, 12, 13, 14, 15, 16] rfl
    refine va_calli (va_runV (As := [.int x1, .int x2, .long (f_X7_clean (mk S_2 x1.toNatClampNeg) x3)]) (rest := []) ⟨hx, hb, hml, hown, hts⟩ (c_X7_keep l dC dI o r cI cJ H.size S_2 x1 x2 (f_X7_clean (mk S_2 x1.toNatClampNeg) x3) hI hL) (cwV 3 hts (gV iX7_keep (zin__r7 (.methodLink RX7 149 yX7_keep) (List.mem_of_getElem? (i := 9) rfl))) rfl rfl rfl (by decide +kernel) ⟨Nat.le_of_ble_eq_true rfl, Nat.le_of_ble_eq_true rfl⟩) ⟨fun a U g mk q => ⟨q.1, mB_bl q.2⟩, mW_rv hw, fun U hU hW => ⟨rfl, mB_mv hw hD hU hW⟩⟩ rfl rfl hl.1 rfl (lv_room (Nat.le_of_ble_eq_true rfl)) dX7_set_39 ⟨Nat.zero_le _, Nat.zero_le _⟩) hS (fun q _ h => hFc q h) hFc (fun r_39 S_3 t H1 locs ht hvm hw1 hB hz1 hk1 hS => ?_)
    obtain ⟨hP, -, hD1⟩ := hB
    rw [ht] at hP
    have hD := hD1.weaken (fun k q _ h => hFc q.1 h)
    generalize H1 = H at hP hS ⊢
    have hw : mH dC dI o r cI cJ S_3 s H := ⟨hP, hK⟩
    have hm := mA_of hts hw
    have hf : f_X7_set S x1 x2 x3 = (r_39, S_3) := hf.trans (congrArg (fun z => (f_X7_set_1 z)) hw1.symm)
    exact W.iret hx hb hr (fun t ht hW => ⟨⟨_, S_3, rfl, hf.symm, by rw [ht]; exact hP, va_K.moved hW.alike hK, hD⟩, hS.F ht⟩) hS.2.2 dX7_set_42
  · have hf : f_X7_set S x1 x2 x3 = (f_X7_set_1 (f_X7_no S v5_1)) := hf.trans (if_neg c_10)
    refine lv_aload_n hx hb dX7_set_13 rfl (lv_at hl 1 rfl) ?_
    refine lv_iload hx hb dX7_set_14 (lv_at hl 0 rfl) ?_
    have hFc := va_free (wc := mWs o r cI cJ S) hD hS hA [0, 1, 2, 3, 4, 5, 6, 7, 8, 9, 10, 11, 12, 13, 14, 15, 16] rfl
    refine va_calli (va_runV (As := [.int v5_1]) (rest := []) ⟨hx, hb, hml, hown, hts⟩ (c_X7_no l dC dI o r cI cJ s.heap.size S v5_1) (cwV 1 hts (gV iX7_no (zin__r4 (.methodLink RX7 139 yX7_no) (List.mem_of_getElem? (i := 14) rfl))) rfl rfl rfl (by decide +kernel) ⟨Nat.le_of_ble_eq_true rfl, Nat.le_of_ble_eq_true rfl⟩) ⟨fun a U g mk q => ⟨q.1, mB_bl q.2⟩, mW_rv hw, fun U hU hW => ⟨rfl, mB_mv hw hD hU hW⟩⟩ rfl rfl hl.1 rfl (lv_room (Nat.le_of_ble_eq_true rfl)) dX7_set_16 ⟨Nat.zero_le _, Nat.zero_le _⟩) hS (fun q _ h => hFc q h) hFc (fun r_16 S_4 t H1 locs ht hvm hw1 hB hz1 hk1 hS => ?_)
    obtain ⟨hP, -, hD1⟩ := hB
    rw [ht] at hP
    have hD := hD1.weaken (fun k q _ h => hFc q.1 h)
    generalize H1 = H at hP hS ⊢
    have hw : mH dC dI o r cI cJ S_4 s H := ⟨hP, hK⟩
    have hm := mA_of hts hw
    have hf : f_X7_set S x1 x2 x3 = (r_16, S_4) := hf.trans (congrArg (fun z => (f_X7_set_1 z)) hw1.symm)
    exact W.iret hx hb hr (fun t ht hW => ⟨⟨_, S_4, rfl, hf.symm, by rw [ht]; exact hP, va_K.moved hW.alike hK, hD⟩, hS.F ht⟩) hS.2.2 dX7_set_19
def f_X7_whole_1 (p9 : Int32 × MSt) : Int32 × MSt := (p9.1, p9.2)
def f_X7_whole_2 (S_2 : MSt) (x1 : Int32) (x2 : Int32) (w_3 : Int32) (w_4 : Int64) : Int32 × MSt := (f_X7_whole_1 (f_X7_keep S_2 x1 x2 (f_X7_round (mk S_2 x1.toNatClampNeg) w_3 w_4 (0 : Int32) (0 : Int32))))
def f_X7_whole_3 (x3 : Int64) (S_2 : MSt) (x1 : Int32) (x2 : Int32) (w_3 : Int32) : Int32 × MSt := if (0 : Int64) ≤ x3 then (f_X7_whole_2 S_2 x1 x2 w_3 x3) else (f_X7_whole_2 S_2 x1 x2 w_3 (-x3))
def f_X7_whole_4 (x3 : Int64) (S_2 : MSt) (x1 : Int32) (x2 : Int32) : Int32 × MSt := if (0 : Int64) ≤ x3 then (f_X7_whole_3 x3 S_2 x1 x2 (0 : Int32)) else (f_X7_whole_3 x3 S_2 x1 x2 (1 : Int32))
def f_X7_whole_5 (x3 : Int64) (S_2 : MSt) (x1 : Int32) (x2 : Int32) : Int32 × MSt := if x3 = (-9223372036854775808 : Int64) then (f_X7_whole_1 (f_X7_keep S_2 x1 x2 (f_X7_round (mk S_2 x1.toNatClampNeg) (1 : Int32) (4611686018427387904 : Int64) (1 : Int32) (0 : Int32)))) else (f_X7_whole_4 x3 S_2 x1 x2)
def f_X7_whole_6 (x3 : Int64) (S_2 : MSt) (x1 : Int32) (x2 : Int32) : Int32 × MSt := if x3 = (0 : Int64) then (f_X7_whole_1 (f_X7_keep S_2 x1 x2 (0 : Int64))) else (f_X7_whole_5 x3 S_2 x1 x2)
def f_X7_whole_7 (v5_1 : Int32) (x3 : Int64) (S : MSt) (x1 : Int32) (x2 : Int32) : Int32 × MSt := if v5_1 ≤ 0 then (f_X7_whole_6 x3 (mset_s S (0 : Int32)) x1 x2) else (f_X7_whole_1 (f_X7_no S v5_1))
def f_X7_whole (S : MSt) (x1 : Int32) (x2 : Int32) (x3 : Int64) : Int32 × MSt := (f_X7_whole_7 (f_X7_bad S x1 x2) x3 S x1 x2)
def zX7_whole : List Cond := .code yX7_whole cX7_whole 7 (some .int) :: zall
theorem iX7_whole : MWv RX7 yX7_whole (.code yX7_whole cX7_whole 7 (some .int)) := ⟨(zin__r9 (.instanceMethod yX7_whole) (List.mem_of_getElem? (i := 21) rfl)), (zin__r9 (.selects RX7 yX7_whole yX7_whole) (List.mem_of_getElem? (i := 22) rfl)), (zin__r1 (.initialized RX7) (List.mem_of_getElem? (i := 5) rfl)), (zin__r9 (.code yX7_whole cX7_whole 7 (some .int)) (List.mem_of_getElem? (i := 23) rfl))⟩
set_option maxHeartbeats 4000000 in
set_option maxRecDepth 100000 in
theorem c_X7_whole (l : Launch) (dC : Nat → ClassId) (dI : Nat → Nat → Nat) (o : Nat) (r : Nat → Nat) (cI cJ : ClassId) (sz : Nat) (S : MSt) (x1 : Int32) (x2 : Int32) (x3 : Int64) (hI : mInv S) : Met l yX7_whole zX7_whole ({ frames := 4, cells := 0, slots := 0, locals := 93 }) (va_Pc [.ref o, .int x1, .int x2, .long x3] (fun U => mB dC dI o r cI cJ sz S U)) (va_Qi (fun r9 S9 => (r9, S9) = f_X7_whole S x1 x2 x3) (mE dC dI o r cI cJ (va_A (mWs o r cI cJ S) sz)) (va_A (mWs o r cI cJ S) sz)) 0 0 (va_A (mWs o r cI cJ S) sz) := by
  refine Met.ofW (cc := cX7_whole) (maxL := 7) (ret := (some .int)) (by decide) rfl ?_
  intro p e s m args below meth c s₁ B hml hv
  obtain ⟨rfl, hsz, hP, hK, hD0⟩ := hv
  have hx := B.exec
  have hb := B.bytes
  have hr := B.returns
  have hts : ∀ w ∈ zall, w.before _ s = true := fun w h => atoms_spec (ws := zX7_whole) B.pre w (List.mem_cons_of_mem _ h)
  have hown : s.vm.findClass RX7 = some m.cls := findClass_of_methodNamed B.named
  have hlocks := B.notSynchronized
  subst hsz
  have hD := hD0.self (sz := s.heap.size)
  generalize hAe : va_A (mWs o r cI cJ S) s.heap.size = A at hD ⊢
  have hA : ∀ q : Nat, s.heap.size ≤ q → A q := fun q h => by rw [← hAe]; exact Or.inr h
  have hS : va_S A s.heap s.heap [] := va_S.rf
  have hw : mH dC dI o r cI cJ S s s.heap := ⟨hP, hK⟩
  have hm := mA_of hts hw
  have hl := lv_entry ([.ref o, .int x1, .int x2, .long x3]) (n := 7) (Nat.le_of_ble_eq_true rfl)
  rw [lg_entry_eq]
  generalize (lg_sl ([.ref o, .int x1, .int x2, .long x3]) ++ List.replicate (7 - (lg_sl ([.ref o, .int x1, .int x2, .long x3])).length) Slot.unset).toArray = ls at hl ⊢
  have hl : lv_has ls 7 [(0, .ref o), (1, .int x1), (2, .int x2), (3, .long x3)] := hl
  have hf : f_X7_whole S x1 x2 x3 = (f_X7_whole_7 (f_X7_bad S x1 x2) x3 S x1 x2) := rfl
  refine lv_aload_n hx hb dX7_whole_0 rfl (lv_at hl 0 rfl) ?_
  refine lv_iload_n hx hb dX7_whole_1 rfl (lv_at hl 1 rfl) ?_
  refine lv_iload_n hx hb dX7_whole_2 rfl (lv_at hl 2 rfl) ?_
  refine vp_callSi (va_Run.run (va_runV (As := [.int x1, .int x2]) (rest := []) ⟨hx, hb, hml, hown, hts⟩ (c_X7_bad l dC dI o r cI cJ S x1 x2 hI) (cwV 2 hts (gV iX7_bad (zin__r6 (.methodLink RX7 142 yX7_bad) (List.mem_of_getElem? (i := 15) rfl))) rfl rfl rfl (by decide +kernel) ⟨Nat.le_of_ble_eq_true rfl, Nat.le_of_ble_eq_true rfl⟩) ⟨fun a U g mk q => ⟨q.1, mW_bl q.2⟩, (mW_rv hw), fun U hU hW => ⟨rfl, mW_mv hw hU hW⟩⟩ rfl rfl hl.1 rfl (lv_room (Nat.le_of_ble_eq_true rfl)) dX7_whole_3 ⟨Nat.zero_le _, Nat.zero_le _⟩)) (fun r_3 hr_3 => ?_)
  subst hr_3
  refine lv_topi (fun v5_1 e_v5_1 => ?_)
  have hf : f_X7_whole S x1 x2 x3 = (f_X7_whole_7 v5_1 x3 S x1 x2) := hf.trans (congrArg (fun z => (f_X7_whole_7 z x3 S x1 x2)) e_v5_1.symm)
  refine lv_istore (lv' := [(5, .int v5_1), (0, .ref o), (1, .int x1), (2, .int x2), (3, .long x3)]) hx hb dX7_whole_6 hl (by decide) rfl (fun ls hl => ?_)
  refine lv_iload hx hb dX7_whole_8 (lv_at hl 0 rfl) ?_
  refine lv_if_le (tgt := 20) hx hb dX7_whole_10 (by decide) (fun c_10 => ?_) (fun c_10 => ?_)
  · have hf : f_X7_whole S x1 x2 x3 = (f_X7_whole_6 x3 (mset_s S (0 : Int32)) x1 x2) := hf.trans (if_pos c_10)
    have hL : mPl S x1 x2 := why_ok hI e_v5_1 c_10
    refine lv_aload_n hx hb dX7_whole_20 rfl (lv_at hl 1 rfl) ?_
    refine lv_iconst (v := 0) hx hb dX7_whole_21 (by decide) ?_
    refine va_put (D := (dC, dI)) (ci := 5) (v := .int (0 : Int32)) (ty := .int) (C := RX7) (T := TX7) (N := 18) hx hb hts zin_X7 tyX7 tyX7_ok nmX7 hown hK hP hD hS 0 rfl rfl 17 (by decide) (hts _ (zin__r4 (.fieldLink RX7 75 "ReckonBenchModel" "status" "I") (List.mem_of_getElem? (i := 13) rfl))) (fun _ h9 => h9) rfl (by decide +kernel) rfl rfl (Nat.le_of_ble_eq_true rfl) dX7_whole_22 (fun H locs hP hD hS => ?_)
    obtain ⟨S_2, e_S_2⟩ : ∃ z : MSt, z = (mset_s S (0 : Int32)) := ⟨_, rfl⟩
    have hP : va_P (dC, dI) vwCl (mWs o r cI cJ S_2) H := by rw [e_S_2]; exact hP
    have hD : va_D A (mWs o r cI cJ S_2) := by rw [e_S_2]; exact hD
    have hw : mH dC dI o r cI cJ S_2 s H := ⟨hP, hK⟩
    have hm := mA_of hts hw
    have hI : mInv S_2 := by rw [e_S_2]; exact hI
    have hL : mPl S_2 x1 x2 := by rw [e_S_2]; exact hL
    have hf : f_X7_whole S x1 x2 x3 = (f_X7_whole_6 x3 S_2 x1 x2) := hf.trans (congrArg (fun z => (f_X7_whole_6 x3 z x1 x2)) e_S_2.symm)
    refine lv_aload_n hx hb dX7_whole_25 rfl (lv_at hl 1 rfl) ?_
    refine va_get (D := (dC, dI)) (ci := 5) (v := .ref (r 8)) (C := RX7) (T := TX7) (N := 18) hx hb hts zin_X7 hown hK hP 0 rfl rfl 8 (by decide) (hts _ (zin__r3 (.fieldLink RX7 51 "ReckonBenchModel" "kinds" "[I") (List.mem_of_getElem? (i := 2) rfl))) (fun _ h9 => h9) rfl dX7_whole_26 ?_
    refine lv_iload_n hx hb dX7_whole_29 rfl (lv_at hl 2 rfl) ?_
    refine va_iald (f := fun j => nI (mk S_2 j)) hx hb hK hP 9 0 rfl rfl (mRow.in2 hI (mPl.row hL)) dX7_whole_30 ?_
    refine lv_istore (lv' := [(6, .int (nI (mk S_2 x1.toNatClampNeg))), (5, .int v5_1), (0, .ref o), (1, .int x1), (2, .int x2), (3, .long x3)]) hx hb dX7_whole_31 hl (by decide) rfl (fun ls hl => ?_)
    refine lv_lload_n hx hb dX7_whole_33 rfl (lv_at hl 5 rfl) ?_
    refine lv_lconst (v := 0) hx hb dX7_whole_34 (by decide) ?_
    refine W.lcmp hx hb dX7_whole_35 ?_
    refine lv_if_ne (tgt := 47) hx hb dX7_whole_36 (by decide) (fun c_36 => ?_) (fun c_36 => ?_)
    · have c_36 : ¬ (x3 = (0 : Int64)) := fun h9 => c_36 ((lg_cmp_eq x3 (0 : Int64)).mpr h9)
      have hf : f_X7_whole S x1 x2 x3 = (f_X7_whole_5 x3 S_2 x1 x2) := hf.trans (if_neg c_36)
      refine lv_lload_n hx hb dX7_whole_47 rfl (lv_at hl 5 rfl) ?_
      refine lv_ldc2 (v := -9223372036854775808) hx hb hown (hts _ (zin__r2 (.constantLong RX7 19 (-9223372036854775808)) (List.mem_of_getElem? (i := 13) rfl))) dX7_whole_48 ?_
      refine W.lcmp hx hb dX7_whole_51 ?_
      refine lv_if_ne (tgt := 74) hx hb dX7_whole_52 (by decide) (fun c_52 => ?_) (fun c_52 => ?_)
      · have c_52 : ¬ (x3 = (-9223372036854775808 : Int64)) := fun h9 => c_52 ((lg_cmp_eq x3 (-9223372036854775808 : Int64)).mpr h9)
        have hf : f_X7_whole S x1 x2 x3 = (f_X7_whole_4 x3 S_2 x1 x2) := hf.trans (if_neg c_52)
        refine lv_aload_n hx hb dX7_whole_74 rfl (lv_at hl 2 rfl) ?_
        refine lv_iload_n hx hb dX7_whole_75 rfl (lv_at hl 3 rfl) ?_
        refine lv_iload_n hx hb dX7_whole_76 rfl (lv_at hl 4 rfl) ?_
        refine lv_aload_n hx hb dX7_whole_77 rfl (lv_at hl 2 rfl) ?_
        refine lv_iload hx hb dX7_whole_78 (lv_at hl 0 rfl) ?_
        refine lv_lload_n hx hb dX7_whole_80 rfl (lv_at hl 5 rfl) ?_
        refine lv_lconst (v := 0) hx hb dX7_whole_81 (by decide) ?_
        refine W.lcmp hx hb dX7_whole_82 ?_
        refine W_cut (α := Int32) (pcJ := 91) (nL := 7) (fun v => f_X7_whole S x1 x2 x3 = (f_X7_whole_3 x3 S_2 x1 x2 v)) (fun v => [.int v, .int (nI (mk S_2 x1.toNatClampNeg)), .ref o, .int x2, .int x1, .ref o]) (fun v => [(3, .long x3)]) (fun w_3 ls hf hl => ?_) (fun K_91 => ?_)
        · have hf : f_X7_whole S x1 x2 x3 = (f_X7_whole_3 x3 S_2 x1 x2 w_3) := hf
          have hl : lv_has ls 7 [(3, .long x3)] := hl
          refine lv_lload_n hx hb dX7_whole_91 rfl (lv_at hl 0 rfl) ?_
          refine lv_lconst (v := 0) hx hb dX7_whole_92 (by decide) ?_
          refine W.lcmp hx hb dX7_whole_93 ?_
          refine W_cut (α := Int64) (pcJ := 103) (nL := 7) (fun v => f_X7_whole S x1 x2 x3 = (f_X7_whole_2 S_2 x1 x2 w_3 v)) (fun v => [.long v, .int w_3, .int (nI (mk S_2 x1.toNatClampNeg)), .ref o, .int x2, .int x1, .ref o]) (fun v => []) (fun w_4 ls hf hl => ?_) (fun K_103 => ?_)
          · have hf : f_X7_whole S x1 x2 x3 = (f_X7_whole_1 (f_X7_keep S_2 x1 x2 (f_X7_round (mk S_2 x1.toNatClampNeg) w_3 w_4 (0 : Int32) (0 : Int32)))) := hf
            have hl : lv_has ls 7 [] := hl
            refine lv_iconst (v := 0) hx hb dX7_whole_103 (by decide) ?_
            refine lv_iconst (v := 0) hx hb dX7_whole_104 (by decide) ?_
            refine vp_callSl (va_Run.run (va_runV (As := [.int (nI (mk S_2 x1.toNatClampNeg)), .int w_3, .long w_4, .int (0 : Int32), .int (0 : Int32)]) (rest := [.int x2, .int x1, .ref o]) ⟨hx, hb, hml, hown, hts⟩ (c_X7_round l o r (mk S_2 x1.toNatClampNeg) (mRow.k hI (mPl.row hL)) w_3 w_4 (0 : Int32) (0 : Int32)) (cwV 5 hts (gV iX7_round (zin__r10 (.methodLink RX7 125 yX7_round) (List.mem_of_getElem? (i := 1) rfl))) rfl rfl rfl (by decide +kernel) ⟨Nat.le_of_ble_eq_true rfl, Nat.le_of_ble_eq_true rfl⟩) ⟨fun a U g mk q => ⟨q.1, mU_bl q.2⟩, (mW_rv hw), fun U hU hW => ⟨rfl, mU_mvH hm hU hW⟩⟩ rfl rfl hl.1 rfl (lv_room (Nat.le_of_ble_eq_true rfl)) dX7_whole_105 ⟨Nat.zero_le _, Nat.zero_le _⟩)) (fun r_105 hr_105 => ?_)
            subst hr_105
            have hFc := va_free (wc := mWs o r cI cJ S_2) hD hS hA [0, 1, 2, 3, 4, 5, 6, 7, 8, 9, 10, 11, 12, 13, 14, 15, 16] rfl
            refine va_calli (va_runV (As := [.int x1, .int x2, .long (f_X7_round (mk S_2 x1.toNatClampNeg) w_3 w_4 (0 : Int32) (0 : Int32))]) (rest := []) ⟨hx, hb, hml, hown, hts⟩ (c_X7_keep l dC dI o r cI cJ H.size S_2 x1 x2 (f_X7_round (mk S_2 x1.toNatClampNeg) w_3 w_4 (0 : Int32) (0 : Int32)) hI hL) (cwV 3 hts (gV iX7_keep (zin__r7 (.methodLink RX7 149 yX7_keep) (List.mem_of_getElem? (i := 9) rfl))) rfl rfl rfl (by decide +kernel) ⟨Nat.le_of_ble_eq_true rfl, Nat.le_of_ble_eq_true rfl⟩) ⟨fun a U g mk q => ⟨q.1, mB_bl q.2⟩, mW_rv hw, fun U hU hW => ⟨rfl, mB_mv hw hD hU hW⟩⟩ rfl rfl hl.1 rfl (lv_room (Nat.le_of_ble_eq_true rfl)) dX7_whole_108 ⟨Nat.zero_le _, Nat.zero_le _⟩) hS (fun q _ h => hFc q h) hFc (fun r_108 S_5 t H1 locs ht hvm hw1 hB hz1 hk1 hS => ?_)
            obtain ⟨hP, -, hD1⟩ := hB
            rw [ht] at hP
            have hD := hD1.weaken (fun k q _ h => hFc q.1 h)
            generalize H1 = H at hP hS ⊢
            have hw : mH dC dI o r cI cJ S_5 s H := ⟨hP, hK⟩
            have hm := mA_of hts hw
            have hf : f_X7_whole S x1 x2 x3 = (r_108, S_5) := hf.trans (congrArg (fun z => (f_X7_whole_1 z)) hw1.symm)
            exact W.iret hx hb hr (fun t ht hW => ⟨⟨_, S_5, rfl, hf.symm, by rw [ht]; exact hP, va_K.moved hW.alike hK, hD⟩, hS.F ht⟩) hS.2.2 dX7_whole_111
          refine lv_if_ge (tgt := 102) hx hb dX7_whole_94 (by decide) (fun c_94 => ?_) (fun c_94 => ?_)
          · have c_94 : (0 : Int64) ≤ x3 := (lg_cmp_ge x3 (0 : Int64)).mp c_94
            have hf : f_X7_whole S x1 x2 x3 = (f_X7_whole_2 S_2 x1 x2 w_3 x3) := hf.trans (if_pos c_94)
            refine lv_lload_n hx hb dX7_whole_102 rfl (lv_at hl 0 rfl) ?_
            exact K_103 x3 ls hf (lv_sub hl [] rfl)
          · have c_94 : ¬ ((0 : Int64) ≤ x3) := fun h9 => c_94 ((lg_cmp_ge x3 (0 : Int64)).mpr h9)
            have hf : f_X7_whole S x1 x2 x3 = (f_X7_whole_2 S_2 x1 x2 w_3 (-x3)) := hf.trans (if_neg c_94)
            refine lv_lload_n hx hb dX7_whole_97 rfl (lv_at hl 0 rfl) ?_
            refine lv_lneg hx hb dX7_whole_98 ?_
            refine lv_goto (tgt := 103) hx hb dX7_whole_99 (by decide) ?_
            exact K_103 (-x3) ls hf (lv_sub hl [] rfl)
        refine lv_if_ge (tgt := 90) hx hb dX7_whole_83 (by decide) (fun c_83 => ?_) (fun c_83 => ?_)
        · have c_83 : (0 : Int64) ≤ x3 := (lg_cmp_ge x3 (0 : Int64)).mp c_83
          have hf : f_X7_whole S x1 x2 x3 = (f_X7_whole_3 x3 S_2 x1 x2 (0 : Int32)) := hf.trans (if_pos c_83)
          refine lv_iconst (v := 0) hx hb dX7_whole_90 (by decide) ?_
          exact K_91 (0 : Int32) ls hf (lv_sub hl [5] rfl)
        · have c_83 : ¬ ((0 : Int64) ≤ x3) := fun h9 => c_83 ((lg_cmp_ge x3 (0 : Int64)).mpr h9)
          have hf : f_X7_whole S x1 x2 x3 = (f_X7_whole_3 x3 S_2 x1 x2 (1 : Int32)) := hf.trans (if_neg c_83)
          refine lv_iconst (v := 1) hx hb dX7_whole_86 (by decide) ?_
          refine lv_goto (tgt := 91) hx hb dX7_whole_87 (by decide) ?_
          exact K_91 (1 : Int32) ls hf (lv_sub hl [5] rfl)
      · have c_52 : x3 = (-9223372036854775808 : Int64) := (lg_cmp_eq x3 (-9223372036854775808 : Int64)).mp c_52
        have hf : f_X7_whole S x1 x2 x3 = (f_X7_whole_1 (f_X7_keep S_2 x1 x2 (f_X7_round (mk S_2 x1.toNatClampNeg) (1 : Int32) (4611686018427387904 : Int64) (1 : Int32) (0 : Int32)))) := hf.trans (if_pos c_52)
        refine lv_aload_n hx hb dX7_whole_55 rfl (lv_at hl 2 rfl) ?_
        refine lv_iload_n hx hb dX7_whole_56 rfl (lv_at hl 3 rfl) ?_
        refine lv_iload_n hx hb dX7_whole_57 rfl (lv_at hl 4 rfl) ?_
        refine lv_aload_n hx hb dX7_whole_58 rfl (lv_at hl 2 rfl) ?_
        refine lv_iload hx hb dX7_whole_59 (lv_at hl 0 rfl) ?_
        refine lv_iconst (v := 1) hx hb dX7_whole_61 (by decide) ?_
        refine lv_ldc2 (v := 4611686018427387904) hx hb hown (hts _ (zin__r10 (.constantLong RX7 153 (4611686018427387904)) (List.mem_of_getElem? (i := 0) rfl))) dX7_whole_62 ?_
        refine lv_iconst (v := 1) hx hb dX7_whole_65 (by decide) ?_
        refine lv_iconst (v := 0) hx hb dX7_whole_66 (by decide) ?_
        refine vp_callSl (va_Run.run (va_runV (As := [.int (nI (mk S_2 x1.toNatClampNeg)), .int (1 : Int32), .long (4611686018427387904 : Int64), .int (1 : Int32), .int (0 : Int32)]) (rest := [.int x2, .int x1, .ref o]) ⟨hx, hb, hml, hown, hts⟩ (c_X7_round l o r (mk S_2 x1.toNatClampNeg) (mRow.k hI (mPl.row hL)) (1 : Int32) (4611686018427387904 : Int64) (1 : Int32) (0 : Int32)) (cwV 5 hts (gV iX7_round (zin__r10 (.methodLink RX7 125 yX7_round) (List.mem_of_getElem? (i := 1) rfl))) rfl rfl rfl (by decide +kernel) ⟨Nat.le_of_ble_eq_true rfl, Nat.le_of_ble_eq_true rfl⟩) ⟨fun a U g mk q => ⟨q.1, mU_bl q.2⟩, (mW_rv hw), fun U hU hW => ⟨rfl, mU_mvH hm hU hW⟩⟩ rfl rfl hl.1 rfl (lv_room (Nat.le_of_ble_eq_true rfl)) dX7_whole_67 ⟨Nat.zero_le _, Nat.zero_le _⟩)) (fun r_67 hr_67 => ?_)
        subst hr_67
        have hFc := va_free (wc := mWs o r cI cJ S_2) hD hS hA [0, 1, 2, 3, 4, 5, 6, 7, 8, 9, 10, 11, 12, 13, 14, 15, 16] rfl
        refine va_calli (va_runV (As := [.int x1, .int x2, .long (f_X7_round (mk S_2 x1.toNatClampNeg) (1 : Int32) (4611686018427387904 : Int64) (1 : Int32) (0 : Int32))]) (rest := []) ⟨hx, hb, hml, hown, hts⟩ (c_X7_keep l dC dI o r cI cJ H.size S_2 x1 x2 (f_X7_round (mk S_2 x1.toNatClampNeg) (1 : Int32) (4611686018427387904 : Int64) (1 : Int32) (0 : Int32)) hI hL) (cwV 3 hts (gV iX7_keep (zin__r7 (.methodLink RX7 149 yX7_keep) (List.mem_of_getElem? (i := 9) rfl))) rfl rfl rfl (by decide +kernel) ⟨Nat.le_of_ble_eq_true rfl, Nat.le_of_ble_eq_true rfl⟩) ⟨fun a U g mk q => ⟨q.1, mB_bl q.2⟩, mW_rv hw, fun U hU hW => ⟨rfl, mB_mv hw hD hU hW⟩⟩ rfl rfl hl.1 rfl (lv_room (Nat.le_of_ble_eq_true rfl)) dX7_whole_70 ⟨Nat.zero_le _, Nat.zero_le _⟩) hS (fun q _ h => hFc q h) hFc (fun r_70 S_6 t H1 locs ht hvm hw1 hB hz1 hk1 hS => ?_)
        obtain ⟨hP, -, hD1⟩ := hB
        rw [ht] at hP
        have hD := hD1.weaken (fun k q _ h => hFc q.1 h)
        generalize H1 = H at hP hS ⊢
        have hw : mH dC dI o r cI cJ S_6 s H := ⟨hP, hK⟩
        have hm := mA_of hts hw
        have hf : f_X7_whole S x1 x2 x3 = (r_70, S_6) := hf.trans (congrArg (fun z => (f_X7_whole_1 z)) hw1.symm)
        exact W.iret hx hb hr (fun t ht hW => ⟨⟨_, S_6, rfl, hf.symm, by rw [ht]; exact hP, va_K.moved hW.alike hK, hD⟩, hS.F ht⟩) hS.2.2 dX7_whole_73
    · have c_36 : x3 = (0 : Int64) := (lg_cmp_eq x3 (0 : Int64)).mp c_36
      have hf : f_X7_whole S x1 x2 x3 = (f_X7_whole_1 (f_X7_keep S_2 x1 x2 (0 : Int64))) := hf.trans (if_pos c_36)
      refine lv_aload_n hx hb dX7_whole_39 rfl (lv_at hl 2 rfl) ?_
      refine lv_iload_n hx hb dX7_whole_40 rfl (lv_at hl 3 rfl) ?_
      refine lv_iload_n hx hb dX7_whole_41 rfl (lv_at hl 4 rfl) ?_
      refine lv_lconst (v := 0) hx hb dX7_whole_42 (by decide) ?_
      have hFc := va_free (wc := mWs o r cI cJ S_2) hD hS hA [0, 1, 2, 3, 4, 5, 6, 7, 8, 9, 10, 11, 12, 13, 14, 15, 16] rfl
      refine va_calli (va_runV (As := [.int x1, .int x2, .long (0 : Int64)]) (rest := []) ⟨hx, hb, hml, hown, hts⟩ (c_X7_keep l dC dI o r cI cJ H.size S_2 x1 x2 (0 : Int64) hI hL) (cwV 3 hts (gV iX7_keep (zin__r7 (.methodLink RX7 149 yX7_keep) (List.mem_of_getElem? (i := 9) rfl))) rfl rfl rfl (by decide +kernel) ⟨Nat.le_of_ble_eq_true rfl, Nat.le_of_ble_eq_true rfl⟩) ⟨fun a U g mk q => ⟨q.1, mB_bl q.2⟩, mW_rv hw, fun U hU hW => ⟨rfl, mB_mv hw hD hU hW⟩⟩ rfl rfl hl.1 rfl (lv_room (Nat.le_of_ble_eq_true rfl)) dX7_whole_43 ⟨Nat.zero_le _, Nat.zero_le _⟩) hS (fun q _ h => hFc q h) hFc (fun r_43 S_7 t H1 locs ht hvm hw1 hB hz1 hk1 hS => ?_)
      obtain ⟨hP, -, hD1⟩ := hB
      rw [ht] at hP
      have hD := hD1.weaken (fun k q _ h => hFc q.1 h)
      generalize H1 = H at hP hS ⊢
      have hw : mH dC dI o r cI cJ S_7 s H := ⟨hP, hK⟩
      have hm := mA_of hts hw
      have hf : f_X7_whole S x1 x2 x3 = (r_43, S_7) := hf.trans (congrArg (fun z => (f_X7_whole_1 z)) hw1.symm)
      exact W.iret hx hb hr (fun t ht hW => ⟨⟨_, S_7, rfl, hf.symm, by rw [ht]; exact hP, va_K.moved hW.alike hK, hD⟩, hS.F ht⟩) hS.2.2 dX7_whole_46
  · have hf : f_X7_whole S x1 x2 x3 = (f_X7_whole_1 (f_X7_no S v5_1)) := hf.trans (if_neg c_10)
    refine lv_aload_n hx hb dX7_whole_13 rfl (lv_at hl 1 rfl) ?_
    refine lv_iload hx hb dX7_whole_14 (lv_at hl 0 rfl) ?_
    have hFc := va_free (wc := mWs o r cI cJ S) hD hS hA [0, 1, 2, 3, 4, 5, 6, 7, 8, 9, 10, 11, 12, 13, 14, 15, 16] rfl
    refine va_calli (va_runV (As := [.int v5_1]) (rest := []) ⟨hx, hb, hml, hown, hts⟩ (c_X7_no l dC dI o r cI cJ s.heap.size S v5_1) (cwV 1 hts (gV iX7_no (zin__r4 (.methodLink RX7 139 yX7_no) (List.mem_of_getElem? (i := 14) rfl))) rfl rfl rfl (by decide +kernel) ⟨Nat.le_of_ble_eq_true rfl, Nat.le_of_ble_eq_true rfl⟩) ⟨fun a U g mk q => ⟨q.1, mB_bl q.2⟩, mW_rv hw, fun U hU hW => ⟨rfl, mB_mv hw hD hU hW⟩⟩ rfl rfl hl.1 rfl (lv_room (Nat.le_of_ble_eq_true rfl)) dX7_whole_16 ⟨Nat.zero_le _, Nat.zero_le _⟩) hS (fun q _ h => hFc q h) hFc (fun r_16 S_8 t H1 locs ht hvm hw1 hB hz1 hk1 hS => ?_)
    obtain ⟨hP, -, hD1⟩ := hB
    rw [ht] at hP
    have hD := hD1.weaken (fun k q _ h => hFc q.1 h)
    generalize H1 = H at hP hS ⊢
    have hw : mH dC dI o r cI cJ S_8 s H := ⟨hP, hK⟩
    have hm := mA_of hts hw
    have hf : f_X7_whole S x1 x2 x3 = (r_16, S_8) := hf.trans (congrArg (fun z => (f_X7_whole_1 z)) hw1.symm)
    exact W.iret hx hb hr (fun t ht hW => ⟨⟨_, S_8, rfl, hf.symm, by rw [ht]; exact hP, va_K.moved hW.alike hK, hD⟩, hS.F ht⟩) hS.2.2 dX7_whole_19
def f_X7_get_1 (S_1 : MSt) (x1 : Int32) (x2 : Int32) : Int64 × MSt := if (ms S_1) ≤ 0 then ((f_X7_at S_1 x1 x2), S_1) else ((0 : Int64), S_1)
def f_X7_get (S : MSt) (x1 : Int32) (x2 : Int32) : Int64 × MSt := (f_X7_get_1 (mset_s S (f_X7_bad S x1 x2)) x1 x2)
def zX7_get : List Cond := .code yX7_get cX7_get 3 (some .long) :: zall
theorem iX7_get : MWv RX7 yX7_get (.code yX7_get cX7_get 3 (some .long)) := ⟨(zin__r10 (.instanceMethod yX7_get) (List.mem_of_getElem? (i := 23) rfl)), (zin__r11 (.selects RX7 yX7_get yX7_get) (List.mem_of_getElem? (i := 0) rfl)), (zin__r1 (.initialized RX7) (List.mem_of_getElem? (i := 5) rfl)), (zin__r11 (.code yX7_get cX7_get 3 (some .long)) (List.mem_of_getElem? (i := 1) rfl))⟩
set_option maxHeartbeats 4000000 in
set_option maxRecDepth 100000 in
theorem c_X7_get (l : Launch) (dC : Nat → ClassId) (dI : Nat → Nat → Nat) (o : Nat) (r : Nat → Nat) (cI cJ : ClassId) (sz : Nat) (S : MSt) (x1 : Int32) (x2 : Int32) (hI : mInv S) : Met l yX7_get zX7_get ({ frames := 2, cells := 0, slots := 0, locals := 43 }) (va_Pc [.ref o, .int x1, .int x2] (fun U => mB dC dI o r cI cJ sz S U)) (va_Ql (fun r9 S9 => (r9, S9) = f_X7_get S x1 x2) (mE dC dI o r cI cJ (va_A (mWs o r cI cJ S) sz)) (va_A (mWs o r cI cJ S) sz)) 0 0 (va_A (mWs o r cI cJ S) sz) := by
  refine Met.ofW (cc := cX7_get) (maxL := 3) (ret := (some .long)) (by decide) rfl ?_
  intro p e s m args below meth c s₁ B hml hv
  obtain ⟨rfl, hsz, hP, hK, hD0⟩ := hv
  have hx := B.exec
  have hb := B.bytes
  have hr := B.returns
  have hts : ∀ w ∈ zall, w.before _ s = true := fun w h => atoms_spec (ws := zX7_get) B.pre w (List.mem_cons_of_mem _ h)
  have hown : s.vm.findClass RX7 = some m.cls := findClass_of_methodNamed B.named
  have hlocks := B.notSynchronized
  subst hsz
  have hD := hD0.self (sz := s.heap.size)
  generalize hAe : va_A (mWs o r cI cJ S) s.heap.size = A at hD ⊢
  have hA : ∀ q : Nat, s.heap.size ≤ q → A q := fun q h => by rw [← hAe]; exact Or.inr h
  have hS : va_S A s.heap s.heap [] := va_S.rf
  have hw : mH dC dI o r cI cJ S s s.heap := ⟨hP, hK⟩
  have hm := mA_of hts hw
  have hl := lv_entry ([.ref o, .int x1, .int x2]) (n := 3) (Nat.le_of_ble_eq_true rfl)
  rw [lg_entry_eq]
  generalize (lg_sl ([.ref o, .int x1, .int x2]) ++ List.replicate (3 - (lg_sl ([.ref o, .int x1, .int x2])).length) Slot.unset).toArray = ls at hl ⊢
  have hl : lv_has ls 3 [(0, .ref o), (1, .int x1), (2, .int x2)] := hl
  have hf : f_X7_get S x1 x2 = (f_X7_get_1 (mset_s S (f_X7_bad S x1 x2)) x1 x2) := rfl
  refine lv_aload_n hx hb dX7_get_0 rfl (lv_at hl 0 rfl) ?_
  refine lv_aload_n hx hb dX7_get_1 rfl (lv_at hl 0 rfl) ?_
  refine lv_iload_n hx hb dX7_get_2 rfl (lv_at hl 1 rfl) ?_
  refine lv_iload_n hx hb dX7_get_3 rfl (lv_at hl 2 rfl) ?_
  refine vp_callSi (va_Run.run (va_runV (As := [.int x1, .int x2]) (rest := [.ref o]) ⟨hx, hb, hml, hown, hts⟩ (c_X7_bad l dC dI o r cI cJ S x1 x2 hI) (cwV 2 hts (gV iX7_bad (zin__r6 (.methodLink RX7 142 yX7_bad) (List.mem_of_getElem? (i := 15) rfl))) rfl rfl rfl (by decide +kernel) ⟨Nat.le_of_ble_eq_true rfl, Nat.le_of_ble_eq_true rfl⟩) ⟨fun a U g mk q => ⟨q.1, mW_bl q.2⟩, (mW_rv hw), fun U hU hW => ⟨rfl, mW_mv hw hU hW⟩⟩ rfl rfl hl.1 rfl (lv_room (Nat.le_of_ble_eq_true rfl)) dX7_get_4 ⟨Nat.zero_le _, Nat.zero_le _⟩)) (fun r_4 hr_4 => ?_)
  subst hr_4
  refine va_put (D := (dC, dI)) (ci := 5) (v := .int (f_X7_bad S x1 x2)) (ty := .int) (C := RX7) (T := TX7) (N := 18) hx hb hts zin_X7 tyX7 tyX7_ok nmX7 hown hK hP hD hS 0 rfl rfl 17 (by decide) (hts _ (zin__r4 (.fieldLink RX7 75 "ReckonBenchModel" "status" "I") (List.mem_of_getElem? (i := 13) rfl))) (fun _ h9 => h9) rfl (by decide +kernel) rfl rfl (Nat.le_of_ble_eq_true rfl) dX7_get_7 (fun H locs hP hD hS => ?_)
  obtain ⟨S_1, e_S_1⟩ : ∃ z : MSt, z = (mset_s S (f_X7_bad S x1 x2)) := ⟨_, rfl⟩
  have hP : va_P (dC, dI) vwCl (mWs o r cI cJ S_1) H := by rw [e_S_1]; exact hP
  have hD : va_D A (mWs o r cI cJ S_1) := by rw [e_S_1]; exact hD
  have hw : mH dC dI o r cI cJ S_1 s H := ⟨hP, hK⟩
  have hm := mA_of hts hw
  have hI : mInv S_1 := by rw [e_S_1]; exact hI
  have hf : f_X7_get S x1 x2 = (f_X7_get_1 S_1 x1 x2) := hf.trans (congrArg (fun z => (f_X7_get_1 z x1 x2)) e_S_1.symm)
  refine lv_aload_n hx hb dX7_get_10 rfl (lv_at hl 0 rfl) ?_
  refine va_get (D := (dC, dI)) (ci := 5) (v := .int (ms S_1)) (C := RX7) (T := TX7) (N := 18) hx hb hts zin_X7 hown hK hP 0 rfl rfl 17 (by decide) (hts _ (zin__r4 (.fieldLink RX7 75 "ReckonBenchModel" "status" "I") (List.mem_of_getElem? (i := 13) rfl))) (fun _ h9 => h9) rfl dX7_get_11 ?_
  refine lv_if_le (tgt := 21) hx hb dX7_get_14 (by decide) (fun c_14 => ?_) (fun c_14 => ?_)
  · have hf : f_X7_get S x1 x2 = ((f_X7_at S_1 x1 x2), S_1) := hf.trans (if_pos c_14)
    have hL : mPl S_1 x1 x2 := why_ok (S := S_1) hI (show ms S_1 = f_X7_bad S_1 x1 x2 from by subst e_S_1; rfl) c_14
    refine lv_aload_n hx hb dX7_get_21 rfl (lv_at hl 0 rfl) ?_
    refine lv_iload_n hx hb dX7_get_22 rfl (lv_at hl 1 rfl) ?_
    refine lv_iload_n hx hb dX7_get_23 rfl (lv_at hl 2 rfl) ?_
    refine vp_callSl (va_Run.run (va_runV (As := [.int x1, .int x2]) (rest := []) ⟨hx, hb, hml, hown, hts⟩ (c_X7_at l dC dI o r cI cJ S_1 x1 x2 (mRow.in0 hI (mPl.row hL)) (mPl.at hI hL)) (cwV 2 hts (gV iX7_at (zin__r11 (.methodLink RX7 155 yX7_at) (List.mem_of_getElem? (i := 2) rfl))) rfl rfl rfl (by decide +kernel) ⟨Nat.le_of_ble_eq_true rfl, Nat.le_of_ble_eq_true rfl⟩) ⟨fun a U g mk q => ⟨q.1, mW_bl q.2⟩, (mW_rv hw), fun U hU hW => ⟨rfl, mW_mv hw hU hW⟩⟩ rfl rfl hl.1 rfl (lv_room (Nat.le_of_ble_eq_true rfl)) dX7_get_24 ⟨Nat.zero_le _, Nat.zero_le _⟩)) (fun r_24 hr_24 => ?_)
    subst hr_24
    exact W.lret hx hb hr (fun t ht hW => ⟨⟨_, S_1, rfl, hf.symm, by rw [ht]; exact hP, va_K.moved hW.alike hK, hD⟩, hS.F ht⟩) hS.2.2 dX7_get_27
  · have hf : f_X7_get S x1 x2 = ((0 : Int64), S_1) := hf.trans (if_neg c_14)
    refine lv_lconst (v := 0) hx hb dX7_get_17 (by decide) ?_
    refine lv_goto (tgt := 27) hx hb dX7_get_18 (by decide) ?_
    exact W.lret hx hb hr (fun t ht hW => ⟨⟨_, S_1, rfl, hf.symm, by rw [ht]; exact hP, va_K.moved hW.alike hK, hD⟩, hS.F ht⟩) hS.2.2 dX7_get_27
def f_X7_compare_1 (v6_3 : Int64) (v8_4 : Int64) (S_2 : MSt) : Int32 × MSt := if v6_3 = v8_4 then ((26 : Int32), S_2) else ((52 : Int32), S_2)
def f_X7_compare_2 (v8_4 : Int64) (v6_3 : Int64) (S_2 : MSt) : Int32 × MSt := if v8_4 ≤ v6_3 then (f_X7_compare_1 v6_3 v8_4 S_2) else ((41 : Int32), S_2)
def f_X7_compare_3 (S_2 : MSt) (x1 : Int32) (x3 : Int32) (x2 : Int32) : Int32 × MSt := if (f_X7_none (mk S_2 x1.toNatClampNeg) (f_X7_at S_2 x1 x3)) = 0 then (f_X7_compare_2 (f_X7_rank (mk S_2 x1.toNatClampNeg) (f_X7_at S_2 x1 x3)) (f_X7_rank (mk S_2 x1.toNatClampNeg) (f_X7_at S_2 x1 x2)) S_2) else ((32 : Int32), S_2)
def f_X7_compare_4 (S_2 : MSt) (x1 : Int32) (x2 : Int32) (x3 : Int32) : Int32 × MSt := if (f_X7_none (mk S_2 x1.toNatClampNeg) (f_X7_at S_2 x1 x2)) = 0 then (f_X7_compare_3 S_2 x1 x3 x2) else ((32 : Int32), S_2)
def f_X7_compare_5 (p9 : Int32 × MSt) : Int32 × MSt := (p9.1, p9.2)
def f_X7_compare_6 (v4_1 : Int32) (S : MSt) (x1 : Int32) (x2 : Int32) (x3 : Int32) : Int32 × MSt := if v4_1 ≤ 0 then (f_X7_compare_4 (mset_s S (0 : Int32)) x1 x2 x3) else (f_X7_compare_5 (f_X7_no S v4_1))
def f_X7_compare_7 (S : MSt) (x1 : Int32) (x3 : Int32) (v4_1 : Int32) (x2 : Int32) : Int32 × MSt := if (f_X7_outside S x1 x3) = 0 then (f_X7_compare_6 v4_1 S x1 x2 x3) else (f_X7_compare_5 (f_X7_no S (2 : Int32)))
def f_X7_compare_8 (v4_1 : Int32) (S : MSt) (x1 : Int32) (x3 : Int32) (x2 : Int32) : Int32 × MSt := if v4_1 = 0 then (f_X7_compare_7 S x1 x3 v4_1 x2) else (f_X7_compare_6 v4_1 S x1 x2 x3)
def f_X7_compare (S : MSt) (x1 : Int32) (x2 : Int32) (x3 : Int32) : Int32 × MSt := (f_X7_compare_8 (f_X7_bad S x1 x2) S x1 x3 x2)
def zX7_compare : List Cond := .code yX7_compare cX7_compare 10 (some .int) :: zall
theorem iX7_compare : MWv RX7 yX7_compare (.code yX7_compare cX7_compare 10 (some .int)) := ⟨(zin__r14 (.instanceMethod yX7_compare) (List.mem_of_getElem? (i := 4) rfl)), (zin__r14 (.selects RX7 yX7_compare yX7_compare) (List.mem_of_getElem? (i := 5) rfl)), (zin__r1 (.initialized RX7) (List.mem_of_getElem? (i := 5) rfl)), (zin__r14 (.code yX7_compare cX7_compare 10 (some .int)) (List.mem_of_getElem? (i := 6) rfl))⟩
set_option maxHeartbeats 4000000 in
set_option maxRecDepth 100000 in
theorem c_X7_compare (l : Launch) (dC : Nat → ClassId) (dI : Nat → Nat → Nat) (o : Nat) (r : Nat → Nat) (cI cJ : ClassId) (sz : Nat) (S : MSt) (x1 : Int32) (x2 : Int32) (x3 : Int32) (hI : mInv S) : Met l yX7_compare zX7_compare ({ frames := 2, cells := 0, slots := 0, locals := 46 }) (va_Pc [.ref o, .int x1, .int x2, .int x3] (fun U => mB dC dI o r cI cJ sz S U)) (va_Qi (fun r9 S9 => (r9, S9) = f_X7_compare S x1 x2 x3) (mE dC dI o r cI cJ (va_A (mWs o r cI cJ S) sz)) (va_A (mWs o r cI cJ S) sz)) 0 0 (va_A (mWs o r cI cJ S) sz) := by
  refine Met.ofW (cc := cX7_compare) (maxL := 10) (ret := (some .int)) (by decide) rfl ?_
  intro p e s m args below meth c s₁ B hml hv
  obtain ⟨rfl, hsz, hP, hK, hD0⟩ := hv
  have hx := B.exec
  have hb := B.bytes
  have hr := B.returns
  have hts : ∀ w ∈ zall, w.before _ s = true := fun w h => atoms_spec (ws := zX7_compare) B.pre w (List.mem_cons_of_mem _ h)
  have hown : s.vm.findClass RX7 = some m.cls := findClass_of_methodNamed B.named
  have hlocks := B.notSynchronized
  subst hsz
  have hD := hD0.self (sz := s.heap.size)
  generalize hAe : va_A (mWs o r cI cJ S) s.heap.size = A at hD ⊢
  have hA : ∀ q : Nat, s.heap.size ≤ q → A q := fun q h => by rw [← hAe]; exact Or.inr h
  have hS : va_S A s.heap s.heap [] := va_S.rf
  have hw : mH dC dI o r cI cJ S s s.heap := ⟨hP, hK⟩
  have hm := mA_of hts hw
  have hl := lv_entry ([.ref o, .int x1, .int x2, .int x3]) (n := 10) (Nat.le_of_ble_eq_true rfl)
  rw [lg_entry_eq]
  generalize (lg_sl ([.ref o, .int x1, .int x2, .int x3]) ++ List.replicate (10 - (lg_sl ([.ref o, .int x1, .int x2, .int x3])).length) Slot.unset).toArray = ls at hl ⊢
  have hl : lv_has ls 10 [(0, .ref o), (1, .int x1), (2, .int x2), (3, .int x3)] := hl
  have hf : f_X7_compare S x1 x2 x3 = (f_X7_compare_8 (f_X7_bad S x1 x2) S x1 x3 x2) := rfl
  refine lv_aload_n hx hb dX7_compare_0 rfl (lv_at hl 0 rfl) ?_
  refine lv_iload_n hx hb dX7_compare_1 rfl (lv_at hl 1 rfl) ?_
  refine lv_iload_n hx hb dX7_compare_2 rfl (lv_at hl 2 rfl) ?_
  refine vp_callSi (va_Run.run (va_runV (As := [.int x1, .int x2]) (rest := []) ⟨hx, hb, hml, hown, hts⟩ (c_X7_bad l dC dI o r cI cJ S x1 x2 hI) (cwV 2 hts (gV iX7_bad (zin__r6 (.methodLink RX7 142 yX7_bad) (List.mem_of_getElem? (i := 15) rfl))) rfl rfl rfl (by decide +kernel) ⟨Nat.le_of_ble_eq_true rfl, Nat.le_of_ble_eq_true rfl⟩) ⟨fun a U g mk q => ⟨q.1, mW_bl q.2⟩, (mW_rv hw), fun U hU hW => ⟨rfl, mW_mv hw hU hW⟩⟩ rfl rfl hl.1 rfl (lv_room (Nat.le_of_ble_eq_true rfl)) dX7_compare_3 ⟨Nat.zero_le _, Nat.zero_le _⟩)) (fun r_3 hr_3 => ?_)
  subst hr_3
  refine lv_topi (fun v4_1 e_v4_1 => ?_)
  have hf : f_X7_compare S x1 x2 x3 = (f_X7_compare_8 v4_1 S x1 x3 x2) := hf.trans (congrArg (fun z => (f_X7_compare_8 z S x1 x3 x2)) e_v4_1.symm)
  refine lv_istore (lv' := [(4, .int v4_1), (0, .ref o), (1, .int x1), (2, .int x2), (3, .int x3)]) hx hb dX7_compare_6 hl (by decide) rfl (fun ls hl => ?_)
  refine lv_iload hx hb dX7_compare_8 (lv_at hl 0 rfl) ?_
  refine lv_if_ne (tgt := 25) hx hb dX7_compare_10 (by decide) (fun c_10 => ?_) (fun c_10 => ?_)
  · have hf : f_X7_compare S x1 x2 x3 = (f_X7_compare_6 v4_1 S x1 x2 x3) := hf.trans (if_neg c_10)
    refine lv_iload hx hb dX7_compare_25 (lv_at hl 0 rfl) ?_
    refine lv_if_le (tgt := 37) hx hb dX7_compare_27 (by decide) (fun c_27 => ?_) (fun c_27 => ?_)
    · have hf : f_X7_compare S x1 x2 x3 = (f_X7_compare_4 (mset_s S (0 : Int32)) x1 x2 x3) := hf.trans (if_pos c_27)
      have hL : mPl S x1 x2 := why_ok hI e_v4_1 c_27
      have hL3 : mPl S x1 x3 := (by first | exact out_ok hI (mPl.row hL) c_19 | exact absurd (why_zero hI e_v4_1 c_27) c_10)
      refine lv_aload_n hx hb dX7_compare_37 rfl (lv_at hl 1 rfl) ?_
      refine lv_iconst (v := 0) hx hb dX7_compare_38 (by decide) ?_
      refine va_put (D := (dC, dI)) (ci := 5) (v := .int (0 : Int32)) (ty := .int) (C := RX7) (T := TX7) (N := 18) hx hb hts zin_X7 tyX7 tyX7_ok nmX7 hown hK hP hD hS 0 rfl rfl 17 (by decide) (hts _ (zin__r4 (.fieldLink RX7 75 "ReckonBenchModel" "status" "I") (List.mem_of_getElem? (i := 13) rfl))) (fun _ h9 => h9) rfl (by decide +kernel) rfl rfl (Nat.le_of_ble_eq_true rfl) dX7_compare_39 (fun H locs hP hD hS => ?_)
      obtain ⟨S_2, e_S_2⟩ : ∃ z : MSt, z = (mset_s S (0 : Int32)) := ⟨_, rfl⟩
      have hP : va_P (dC, dI) vwCl (mWs o r cI cJ S_2) H := by rw [e_S_2]; exact hP
      have hD : va_D A (mWs o r cI cJ S_2) := by rw [e_S_2]; exact hD
      have hw : mH dC dI o r cI cJ S_2 s H := ⟨hP, hK⟩
      have hm := mA_of hts hw
      have hI : mInv S_2 := by rw [e_S_2]; exact hI
      have hL : mPl S_2 x1 x2 := by rw [e_S_2]; exact hL
      have hL3 : mPl S_2 x1 x3 := by rw [e_S_2]; exact hL3
      have hf : f_X7_compare S x1 x2 x3 = (f_X7_compare_4 S_2 x1 x2 x3) := hf.trans (congrArg (fun z => (f_X7_compare_4 z x1 x2 x3)) e_S_2.symm)
      refine lv_aload_n hx hb dX7_compare_42 rfl (lv_at hl 1 rfl) ?_
      refine va_get (D := (dC, dI)) (ci := 5) (v := .ref (r 8)) (C := RX7) (T := TX7) (N := 18) hx hb hts zin_X7 hown hK hP 0 rfl rfl 8 (by decide) (hts _ (zin__r3 (.fieldLink RX7 51 "ReckonBenchModel" "kinds" "[I") (List.mem_of_getElem? (i := 2) rfl))) (fun _ h9 => h9) rfl dX7_compare_43 ?_
      refine lv_iload_n hx hb dX7_compare_46 rfl (lv_at hl 2 rfl) ?_
      refine va_iald (f := fun j => nI (mk S_2 j)) hx hb hK hP 9 0 rfl rfl (mRow.in2 hI (mPl.row hL)) dX7_compare_47 ?_
      refine lv_istore (lv' := [(5, .int (nI (mk S_2 x1.toNatClampNeg))), (4, .int v4_1), (0, .ref o), (1, .int x1), (2, .int x2), (3, .int x3)]) hx hb dX7_compare_48 hl (by decide) rfl (fun ls hl => ?_)
      refine lv_aload_n hx hb dX7_compare_50 rfl (lv_at hl 2 rfl) ?_
      refine lv_iload hx hb dX7_compare_51 (lv_at hl 0 rfl) ?_
      refine lv_aload_n hx hb dX7_compare_53 rfl (lv_at hl 2 rfl) ?_
      refine lv_iload_n hx hb dX7_compare_54 rfl (lv_at hl 3 rfl) ?_
      refine lv_iload_n hx hb dX7_compare_55 rfl (lv_at hl 4 rfl) ?_
      refine vp_callSl (va_Run.run (va_runV (As := [.int x1, .int x2]) (rest := [.int (nI (mk S_2 x1.toNatClampNeg)), .ref o]) ⟨hx, hb, hml, hown, hts⟩ (c_X7_at l dC dI o r cI cJ S_2 x1 x2 (mRow.in0 hI (mPl.row hL)) (mPl.at hI hL)) (cwV 2 hts (gV iX7_at (zin__r11 (.methodLink RX7 155 yX7_at) (List.mem_of_getElem? (i := 2) rfl))) rfl rfl rfl (by decide +kernel) ⟨Nat.le_of_ble_eq_true rfl, Nat.le_of_ble_eq_true rfl⟩) ⟨fun a U g mk q => ⟨q.1, mW_bl q.2⟩, (mW_rv hw), fun U hU hW => ⟨rfl, mW_mv hw hU hW⟩⟩ rfl rfl hl.1 rfl (lv_room (Nat.le_of_ble_eq_true rfl)) dX7_compare_56 ⟨Nat.zero_le _, Nat.zero_le _⟩)) (fun r_56 hr_56 => ?_)
      subst hr_56
      refine vp_callSi (va_Run.run (va_runV (As := [.int (nI (mk S_2 x1.toNatClampNeg)), .long (f_X7_at S_2 x1 x2)]) (rest := []) ⟨hx, hb, hml, hown, hts⟩ (c_X7_none l o r (mk S_2 x1.toNatClampNeg) (mRow.k hI (mPl.row hL)) (f_X7_at S_2 x1 x2)) (cwV 2 hts (gV iX7_none (zin__r7 (.methodLink RX7 98 yX7_none) (List.mem_of_getElem? (i := 17) rfl))) rfl rfl rfl (by decide +kernel) ⟨Nat.le_of_ble_eq_true rfl, Nat.le_of_ble_eq_true rfl⟩) ⟨fun a U g mk q => ⟨q.1, mU_bl q.2⟩, (mW_rv hw), fun U hU hW => ⟨rfl, mU_mvH hm hU hW⟩⟩ rfl rfl hl.1 rfl (lv_room (Nat.le_of_ble_eq_true rfl)) dX7_compare_59 ⟨Nat.zero_le _, Nat.zero_le _⟩)) (fun r_59 hr_59 => ?_)
      subst hr_59
      refine lv_if_ne (tgt := 80) hx hb dX7_compare_62 (by decide) (fun c_62 => ?_) (fun c_62 => ?_)
      · have hf : f_X7_compare S x1 x2 x3 = ((32 : Int32), S_2) := hf.trans (if_neg c_62)
        refine lv_bipush (v := 32) hx hb dX7_compare_80 (by decide) ?_
        exact W.iret hx hb hr (fun t ht hW => ⟨⟨_, S_2, rfl, hf.symm, by rw [ht]; exact hP, va_K.moved hW.alike hK, hD⟩, hS.F ht⟩) hS.2.2 dX7_compare_82
      · have hf : f_X7_compare S x1 x2 x3 = (f_X7_compare_3 S_2 x1 x3 x2) := hf.trans (if_pos c_62)
        refine lv_aload_n hx hb dX7_compare_65 rfl (lv_at hl 2 rfl) ?_
        refine lv_iload hx hb dX7_compare_66 (lv_at hl 0 rfl) ?_
        refine lv_aload_n hx hb dX7_compare_68 rfl (lv_at hl 2 rfl) ?_
        refine lv_iload_n hx hb dX7_compare_69 rfl (lv_at hl 3 rfl) ?_
        refine lv_iload_n hx hb dX7_compare_70 rfl (lv_at hl 5 rfl) ?_
        refine vp_callSl (va_Run.run (va_runV (As := [.int x1, .int x3]) (rest := [.int (nI (mk S_2 x1.toNatClampNeg)), .ref o]) ⟨hx, hb, hml, hown, hts⟩ (c_X7_at l dC dI o r cI cJ S_2 x1 x3 (mRow.in0 hI (mPl.row hL3)) (mPl.at hI hL3)) (cwV 2 hts (gV iX7_at (zin__r11 (.methodLink RX7 155 yX7_at) (List.mem_of_getElem? (i := 2) rfl))) rfl rfl rfl (by decide +kernel) ⟨Nat.le_of_ble_eq_true rfl, Nat.le_of_ble_eq_true rfl⟩) ⟨fun a U g mk q => ⟨q.1, mW_bl q.2⟩, (mW_rv hw), fun U hU hW => ⟨rfl, mW_mv hw hU hW⟩⟩ rfl rfl hl.1 rfl (lv_room (Nat.le_of_ble_eq_true rfl)) dX7_compare_71 ⟨Nat.zero_le _, Nat.zero_le _⟩)) (fun r_71 hr_71 => ?_)
        subst hr_71
        refine vp_callSi (va_Run.run (va_runV (As := [.int (nI (mk S_2 x1.toNatClampNeg)), .long (f_X7_at S_2 x1 x3)]) (rest := []) ⟨hx, hb, hml, hown, hts⟩ (c_X7_none l o r (mk S_2 x1.toNatClampNeg) (mRow.k hI (mPl.row hL)) (f_X7_at S_2 x1 x3)) (cwV 2 hts (gV iX7_none (zin__r7 (.methodLink RX7 98 yX7_none) (List.mem_of_getElem? (i := 17) rfl))) rfl rfl rfl (by decide +kernel) ⟨Nat.le_of_ble_eq_true rfl, Nat.le_of_ble_eq_true rfl⟩) ⟨fun a U g mk q => ⟨q.1, mU_bl q.2⟩, (mW_rv hw), fun U hU hW => ⟨rfl, mU_mvH hm hU hW⟩⟩ rfl rfl hl.1 rfl (lv_room (Nat.le_of_ble_eq_true rfl)) dX7_compare_74 ⟨Nat.zero_le _, Nat.zero_le _⟩)) (fun r_74 hr_74 => ?_)
        subst hr_74
        refine lv_if_eq (tgt := 83) hx hb dX7_compare_77 (by decide) (fun c_77 => ?_) (fun c_77 => ?_)
        · have hf : f_X7_compare S x1 x2 x3 = (f_X7_compare_2 (f_X7_rank (mk S_2 x1.toNatClampNeg) (f_X7_at S_2 x1 x3)) (f_X7_rank (mk S_2 x1.toNatClampNeg) (f_X7_at S_2 x1 x2)) S_2) := hf.trans (if_pos c_77)
          refine lv_aload_n hx hb dX7_compare_83 rfl (lv_at hl 2 rfl) ?_
          refine lv_iload hx hb dX7_compare_84 (lv_at hl 0 rfl) ?_
          refine lv_aload_n hx hb dX7_compare_86 rfl (lv_at hl 2 rfl) ?_
          refine lv_iload_n hx hb dX7_compare_87 rfl (lv_at hl 3 rfl) ?_
          refine lv_iload_n hx hb dX7_compare_88 rfl (lv_at hl 4 rfl) ?_
          refine vp_callSl (va_Run.run (va_runV (As := [.int x1, .int x2]) (rest := [.int (nI (mk S_2 x1.toNatClampNeg)), .ref o]) ⟨hx, hb, hml, hown, hts⟩ (c_X7_at l dC dI o r cI cJ S_2 x1 x2 (mRow.in0 hI (mPl.row hL)) (mPl.at hI hL)) (cwV 2 hts (gV iX7_at (zin__r11 (.methodLink RX7 155 yX7_at) (List.mem_of_getElem? (i := 2) rfl))) rfl rfl rfl (by decide +kernel) ⟨Nat.le_of_ble_eq_true rfl, Nat.le_of_ble_eq_true rfl⟩) ⟨fun a U g mk q => ⟨q.1, mW_bl q.2⟩, (mW_rv hw), fun U hU hW => ⟨rfl, mW_mv hw hU hW⟩⟩ rfl rfl hl.1 rfl (lv_room (Nat.le_of_ble_eq_true rfl)) dX7_compare_89 ⟨Nat.zero_le _, Nat.zero_le _⟩)) (fun r_89 hr_89 => ?_)
          subst hr_89
          refine vp_callSl (va_Run.run (va_runV (As := [.int (nI (mk S_2 x1.toNatClampNeg)), .long (f_X7_at S_2 x1 x2)]) (rest := []) ⟨hx, hb, hml, hown, hts⟩ (c_X7_rank l o r (mk S_2 x1.toNatClampNeg) (mRow.k hI (mPl.row hL)) (f_X7_at S_2 x1 x2)) (cwV 2 hts (gV iX7_rank (zin__r14 (.methodLink RX7 133 yX7_rank) (List.mem_of_getElem? (i := 11) rfl))) rfl rfl rfl (by decide +kernel) ⟨Nat.le_of_ble_eq_true rfl, Nat.le_of_ble_eq_true rfl⟩) ⟨fun a U g mk q => ⟨q.1, mU_bl q.2⟩, (mW_rv hw), fun U hU hW => ⟨rfl, mU_mvH hm hU hW⟩⟩ rfl rfl hl.1 rfl (lv_room (Nat.le_of_ble_eq_true rfl)) dX7_compare_92 ⟨Nat.zero_le _, Nat.zero_le _⟩)) (fun r_92 hr_92 => ?_)
          subst hr_92
          refine lv_topl (fun v6_3 e_v6_3 => ?_)
          have hf : f_X7_compare S x1 x2 x3 = (f_X7_compare_2 (f_X7_rank (mk S_2 x1.toNatClampNeg) (f_X7_at S_2 x1 x3)) v6_3 S_2) := hf.trans (congrArg (fun z => (f_X7_compare_2 (f_X7_rank (mk S_2 x1.toNatClampNeg) (f_X7_at S_2 x1 x3)) z S_2)) e_v6_3.symm)
          refine lv_lstore (lv' := [(6, .long v6_3), (5, .int (nI (mk S_2 x1.toNatClampNeg))), (4, .int v4_1), (0, .ref o), (1, .int x1), (2, .int x2), (3, .int x3)]) hx hb dX7_compare_95 hl (by decide) rfl (fun ls hl => ?_)
          refine lv_aload_n hx hb dX7_compare_97 rfl (lv_at hl 3 rfl) ?_
          refine lv_iload hx hb dX7_compare_98 (lv_at hl 1 rfl) ?_
          refine lv_aload_n hx hb dX7_compare_100 rfl (lv_at hl 3 rfl) ?_
          refine lv_iload_n hx hb dX7_compare_101 rfl (lv_at hl 4 rfl) ?_
          refine lv_iload_n hx hb dX7_compare_102 rfl (lv_at hl 6 rfl) ?_
          refine vp_callSl (va_Run.run (va_runV (As := [.int x1, .int x3]) (rest := [.int (nI (mk S_2 x1.toNatClampNeg)), .ref o]) ⟨hx, hb, hml, hown, hts⟩ (c_X7_at l dC dI o r cI cJ S_2 x1 x3 (mRow.in0 hI (mPl.row hL3)) (mPl.at hI hL3)) (cwV 2 hts (gV iX7_at (zin__r11 (.methodLink RX7 155 yX7_at) (List.mem_of_getElem? (i := 2) rfl))) rfl rfl rfl (by decide +kernel) ⟨Nat.le_of_ble_eq_true rfl, Nat.le_of_ble_eq_true rfl⟩) ⟨fun a U g mk q => ⟨q.1, mW_bl q.2⟩, (mW_rv hw), fun U hU hW => ⟨rfl, mW_mv hw hU hW⟩⟩ rfl rfl hl.1 rfl (lv_room (Nat.le_of_ble_eq_true rfl)) dX7_compare_103 ⟨Nat.zero_le _, Nat.zero_le _⟩)) (fun r_103 hr_103 => ?_)
          subst hr_103
          refine vp_callSl (va_Run.run (va_runV (As := [.int (nI (mk S_2 x1.toNatClampNeg)), .long (f_X7_at S_2 x1 x3)]) (rest := []) ⟨hx, hb, hml, hown, hts⟩ (c_X7_rank l o r (mk S_2 x1.toNatClampNeg) (mRow.k hI (mPl.row hL)) (f_X7_at S_2 x1 x3)) (cwV 2 hts (gV iX7_rank (zin__r14 (.methodLink RX7 133 yX7_rank) (List.mem_of_getElem? (i := 11) rfl))) rfl rfl rfl (by decide +kernel) ⟨Nat.le_of_ble_eq_true rfl, Nat.le_of_ble_eq_true rfl⟩) ⟨fun a U g mk q => ⟨q.1, mU_bl q.2⟩, (mW_rv hw), fun U hU hW => ⟨rfl, mU_mvH hm hU hW⟩⟩ rfl rfl hl.1 rfl (lv_room (Nat.le_of_ble_eq_true rfl)) dX7_compare_106 ⟨Nat.zero_le _, Nat.zero_le _⟩)) (fun r_106 hr_106 => ?_)
          subst hr_106
          refine lv_topl (fun v8_4 e_v8_4 => ?_)
          have hf : f_X7_compare S x1 x2 x3 = (f_X7_compare_2 v8_4 v6_3 S_2) := hf.trans (congrArg (fun z => (f_X7_compare_2 z v6_3 S_2)) e_v8_4.symm)
          refine lv_lstore (lv' := [(8, .long v8_4), (6, .long v6_3), (5, .int (nI (mk S_2 x1.toNatClampNeg))), (4, .int v4_1), (0, .ref o), (1, .int x1), (2, .int x2), (3, .int x3)]) hx hb dX7_compare_109 hl (by decide) rfl (fun ls hl => ?_)
          refine lv_lload hx hb dX7_compare_111 (lv_at hl 1 rfl) ?_
          refine lv_lload hx hb dX7_compare_113 (lv_at hl 0 rfl) ?_
          refine W.lcmp hx hb dX7_compare_115 ?_
          refine lv_if_ge (tgt := 124) hx hb dX7_compare_116 (by decide) (fun c_116 => ?_) (fun c_116 => ?_)
          · have c_116 : v8_4 ≤ v6_3 := (lg_cmp_ge v6_3 v8_4).mp c_116
            have hf : f_X7_compare S x1 x2 x3 = (f_X7_compare_1 v6_3 v8_4 S_2) := hf.trans (if_pos c_116)
            refine lv_lload hx hb dX7_compare_124 (lv_at hl 1 rfl) ?_
            refine lv_lload hx hb dX7_compare_126 (lv_at hl 0 rfl) ?_
            refine W.lcmp hx hb dX7_compare_128 ?_
            refine lv_if_ne (tgt := 137) hx hb dX7_compare_129 (by decide) (fun c_129 => ?_) (fun c_129 => ?_)
            · have c_129 : ¬ (v6_3 = v8_4) := fun h9 => c_129 ((lg_cmp_eq v6_3 v8_4).mpr h9)
              have hf : f_X7_compare S x1 x2 x3 = ((52 : Int32), S_2) := hf.trans (if_neg c_129)
              refine lv_bipush (v := 52) hx hb dX7_compare_137 (by decide) ?_
              exact W.iret hx hb hr (fun t ht hW => ⟨⟨_, S_2, rfl, hf.symm, by rw [ht]; exact hP, va_K.moved hW.alike hK, hD⟩, hS.F ht⟩) hS.2.2 dX7_compare_139
            · have c_129 : v6_3 = v8_4 := (lg_cmp_eq v6_3 v8_4).mp c_129
              have hf : f_X7_compare S x1 x2 x3 = ((26 : Int32), S_2) := hf.trans (if_pos c_129)
              refine lv_bipush (v := 26) hx hb dX7_compare_132 (by decide) ?_
              refine lv_goto (tgt := 139) hx hb dX7_compare_134 (by decide) ?_
              exact W.iret hx hb hr (fun t ht hW => ⟨⟨_, S_2, rfl, hf.symm, by rw [ht]; exact hP, va_K.moved hW.alike hK, hD⟩, hS.F ht⟩) hS.2.2 dX7_compare_139
          · have c_116 : ¬ (v8_4 ≤ v6_3) := fun h9 => c_116 ((lg_cmp_ge v6_3 v8_4).mpr h9)
            have hf : f_X7_compare S x1 x2 x3 = ((41 : Int32), S_2) := hf.trans (if_neg c_116)
            refine lv_bipush (v := 41) hx hb dX7_compare_119 (by decide) ?_
            refine lv_goto (tgt := 139) hx hb dX7_compare_121 (by decide) ?_
            exact W.iret hx hb hr (fun t ht hW => ⟨⟨_, S_2, rfl, hf.symm, by rw [ht]; exact hP, va_K.moved hW.alike hK, hD⟩, hS.F ht⟩) hS.2.2 dX7_compare_139
        · have hf : f_X7_compare S x1 x2 x3 = ((32 : Int32), S_2) := hf.trans (if_neg c_77)
          refine lv_bipush (v := 32) hx hb dX7_compare_80 (by decide) ?_
          exact W.iret hx hb hr (fun t ht hW => ⟨⟨_, S_2, rfl, hf.symm, by rw [ht]; exact hP, va_K.moved hW.alike hK, hD⟩, hS.F ht⟩) hS.2.2 dX7_compare_82
    · have hf : f_X7_compare S x1 x2 x3 = (f_X7_compare_5 (f_X7_no S v4_1)) := hf.trans (if_neg c_27)
      refine lv_aload_n hx hb dX7_compare_30 rfl (lv_at hl 1 rfl) ?_
      refine lv_iload hx hb dX7_compare_31 (lv_at hl 0 rfl) ?_
      have hFc := va_free (wc := mWs o r cI cJ S) hD hS hA [0, 1, 2, 3, 4, 5, 6, 7, 8, 9, 10, 11, 12, 13, 14, 15, 16] rfl
      refine va_calli (va_runV (As := [.int v4_1]) (rest := []) ⟨hx, hb, hml, hown, hts⟩ (c_X7_no l dC dI o r cI cJ s.heap.size S v4_1) (cwV 1 hts (gV iX7_no (zin__r4 (.methodLink RX7 139 yX7_no) (List.mem_of_getElem? (i := 14) rfl))) rfl rfl rfl (by decide +kernel) ⟨Nat.le_of_ble_eq_true rfl, Nat.le_of_ble_eq_true rfl⟩) ⟨fun a U g mk q => ⟨q.1, mB_bl q.2⟩, mW_rv hw, fun U hU hW => ⟨rfl, mB_mv hw hD hU hW⟩⟩ rfl rfl hl.1 rfl (lv_room (Nat.le_of_ble_eq_true rfl)) dX7_compare_33 ⟨Nat.zero_le _, Nat.zero_le _⟩) hS (fun q _ h => hFc q h) hFc (fun r_33 S_5 t H1 locs ht hvm hw1 hB hz1 hk1 hS => ?_)
      obtain ⟨hP, -, hD1⟩ := hB
      rw [ht] at hP
      have hD := hD1.weaken (fun k q _ h => hFc q.1 h)
      generalize H1 = H at hP hS ⊢
      have hw : mH dC dI o r cI cJ S_5 s H := ⟨hP, hK⟩
      have hm := mA_of hts hw
      have hf : f_X7_compare S x1 x2 x3 = (r_33, S_5) := hf.trans (congrArg (fun z => (f_X7_compare_5 z)) hw1.symm)
      exact W.iret hx hb hr (fun t ht hW => ⟨⟨_, S_5, rfl, hf.symm, by rw [ht]; exact hP, va_K.moved hW.alike hK, hD⟩, hS.F ht⟩) hS.2.2 dX7_compare_36
  · have hf : f_X7_compare S x1 x2 x3 = (f_X7_compare_7 S x1 x3 v4_1 x2) := hf.trans (if_pos c_10)
    have hL0 : mPl S x1 x2 := why_ok0 hI e_v4_1 c_10
    refine lv_aload_n hx hb dX7_compare_13 rfl (lv_at hl 1 rfl) ?_
    refine lv_iload_n hx hb dX7_compare_14 rfl (lv_at hl 2 rfl) ?_
    refine lv_iload_n hx hb dX7_compare_15 rfl (lv_at hl 4 rfl) ?_
    refine vp_callSi (va_Run.run (va_runV (As := [.int x1, .int x3]) (rest := []) ⟨hx, hb, hml, hown, hts⟩ (c_X7_outside l dC dI o r cI cJ S x1 x3 hI (mPl.row hL0)) (cwV 2 hts (gV iX7_outside (zin__r14 (.methodLink RX7 163 yX7_outside) (List.mem_of_getElem? (i := 7) rfl))) rfl rfl rfl (by decide +kernel) ⟨Nat.le_of_ble_eq_true rfl, Nat.le_of_ble_eq_true rfl⟩) ⟨fun a U g mk q => ⟨q.1, mW_bl q.2⟩, (mW_rv hw), fun U hU hW => ⟨rfl, mW_mv hw hU hW⟩⟩ rfl rfl hl.1 rfl (lv_room (Nat.le_of_ble_eq_true rfl)) dX7_compare_16 ⟨Nat.zero_le _, Nat.zero_le _⟩)) (fun r_16 hr_16 => ?_)
    subst hr_16
    refine lv_if_eq (tgt := 25) hx hb dX7_compare_19 (by decide) (fun c_19 => ?_) (fun c_19 => ?_)
    · have hf : f_X7_compare S x1 x2 x3 = (f_X7_compare_6 v4_1 S x1 x2 x3) := hf.trans (if_pos c_19)
      refine lv_iload hx hb dX7_compare_25 (lv_at hl 0 rfl) ?_
      refine lv_if_le (tgt := 37) hx hb dX7_compare_27 (by decide) (fun c_27 => ?_) (fun c_27 => ?_)
      · have hf : f_X7_compare S x1 x2 x3 = (f_X7_compare_4 (mset_s S (0 : Int32)) x1 x2 x3) := hf.trans (if_pos c_27)
        have hL : mPl S x1 x2 := why_ok hI e_v4_1 c_27
        have hL3 : mPl S x1 x3 := (by first | exact out_ok hI (mPl.row hL) c_19 | exact absurd (why_zero hI e_v4_1 c_27) c_10)
        refine lv_aload_n hx hb dX7_compare_37 rfl (lv_at hl 1 rfl) ?_
        refine lv_iconst (v := 0) hx hb dX7_compare_38 (by decide) ?_
        refine va_put (D := (dC, dI)) (ci := 5) (v := .int (0 : Int32)) (ty := .int) (C := RX7) (T := TX7) (N := 18) hx hb hts zin_X7 tyX7 tyX7_ok nmX7 hown hK hP hD hS 0 rfl rfl 17 (by decide) (hts _ (zin__r4 (.fieldLink RX7 75 "ReckonBenchModel" "status" "I") (List.mem_of_getElem? (i := 13) rfl))) (fun _ h9 => h9) rfl (by decide +kernel) rfl rfl (Nat.le_of_ble_eq_true rfl) dX7_compare_39 (fun H locs hP hD hS => ?_)
        obtain ⟨S_6, e_S_6⟩ : ∃ z : MSt, z = (mset_s S (0 : Int32)) := ⟨_, rfl⟩
        have hP : va_P (dC, dI) vwCl (mWs o r cI cJ S_6) H := by rw [e_S_6]; exact hP
        have hD : va_D A (mWs o r cI cJ S_6) := by rw [e_S_6]; exact hD
        have hw : mH dC dI o r cI cJ S_6 s H := ⟨hP, hK⟩
        have hm := mA_of hts hw
        have hI : mInv S_6 := by rw [e_S_6]; exact hI
        have hL0 : mPl S_6 x1 x2 := by rw [e_S_6]; exact hL0
        have hL : mPl S_6 x1 x2 := by rw [e_S_6]; exact hL
        have hL3 : mPl S_6 x1 x3 := by rw [e_S_6]; exact hL3
        have hf : f_X7_compare S x1 x2 x3 = (f_X7_compare_4 S_6 x1 x2 x3) := hf.trans (congrArg (fun z => (f_X7_compare_4 z x1 x2 x3)) e_S_6.symm)
        refine lv_aload_n hx hb dX7_compare_42 rfl (lv_at hl 1 rfl) ?_
        refine va_get (D := (dC, dI)) (ci := 5) (v := .ref (r 8)) (C := RX7) (T := TX7) (N := 18) hx hb hts zin_X7 hown hK hP 0 rfl rfl 8 (by decide) (hts _ (zin__r3 (.fieldLink RX7 51 "ReckonBenchModel" "kinds" "[I") (List.mem_of_getElem? (i := 2) rfl))) (fun _ h9 => h9) rfl dX7_compare_43 ?_
        refine lv_iload_n hx hb dX7_compare_46 rfl (lv_at hl 2 rfl) ?_
        refine va_iald (f := fun j => nI (mk S_6 j)) hx hb hK hP 9 0 rfl rfl (mRow.in2 hI (mPl.row hL)) dX7_compare_47 ?_
        refine lv_istore (lv' := [(5, .int (nI (mk S_6 x1.toNatClampNeg))), (4, .int v4_1), (0, .ref o), (1, .int x1), (2, .int x2), (3, .int x3)]) hx hb dX7_compare_48 hl (by decide) rfl (fun ls hl => ?_)
        refine lv_aload_n hx hb dX7_compare_50 rfl (lv_at hl 2 rfl) ?_
        refine lv_iload hx hb dX7_compare_51 (lv_at hl 0 rfl) ?_
        refine lv_aload_n hx hb dX7_compare_53 rfl (lv_at hl 2 rfl) ?_
        refine lv_iload_n hx hb dX7_compare_54 rfl (lv_at hl 3 rfl) ?_
        refine lv_iload_n hx hb dX7_compare_55 rfl (lv_at hl 4 rfl) ?_
        refine vp_callSl (va_Run.run (va_runV (As := [.int x1, .int x2]) (rest := [.int (nI (mk S_6 x1.toNatClampNeg)), .ref o]) ⟨hx, hb, hml, hown, hts⟩ (c_X7_at l dC dI o r cI cJ S_6 x1 x2 (mRow.in0 hI (mPl.row hL)) (mPl.at hI hL)) (cwV 2 hts (gV iX7_at (zin__r11 (.methodLink RX7 155 yX7_at) (List.mem_of_getElem? (i := 2) rfl))) rfl rfl rfl (by decide +kernel) ⟨Nat.le_of_ble_eq_true rfl, Nat.le_of_ble_eq_true rfl⟩) ⟨fun a U g mk q => ⟨q.1, mW_bl q.2⟩, (mW_rv hw), fun U hU hW => ⟨rfl, mW_mv hw hU hW⟩⟩ rfl rfl hl.1 rfl (lv_room (Nat.le_of_ble_eq_true rfl)) dX7_compare_56 ⟨Nat.zero_le _, Nat.zero_le _⟩)) (fun r_56 hr_56 => ?_)
        subst hr_56
        refine vp_callSi (va_Run.run (va_runV (As := [.int (nI (mk S_6 x1.toNatClampNeg)), .long (f_X7_at S_6 x1 x2)]) (rest := []) ⟨hx, hb, hml, hown, hts⟩ (c_X7_none l o r (mk S_6 x1.toNatClampNeg) (mRow.k hI (mPl.row hL)) (f_X7_at S_6 x1 x2)) (cwV 2 hts (gV iX7_none (zin__r7 (.methodLink RX7 98 yX7_none) (List.mem_of_getElem? (i := 17) rfl))) rfl rfl rfl (by decide +kernel) ⟨Nat.le_of_ble_eq_true rfl, Nat.le_of_ble_eq_true rfl⟩) ⟨fun a U g mk q => ⟨q.1, mU_bl q.2⟩, (mW_rv hw), fun U hU hW => ⟨rfl, mU_mvH hm hU hW⟩⟩ rfl rfl hl.1 rfl (lv_room (Nat.le_of_ble_eq_true rfl)) dX7_compare_59 ⟨Nat.zero_le _, Nat.zero_le _⟩)) (fun r_59 hr_59 => ?_)
        subst hr_59
        refine lv_if_ne (tgt := 80) hx hb dX7_compare_62 (by decide) (fun c_62 => ?_) (fun c_62 => ?_)
        · have hf : f_X7_compare S x1 x2 x3 = ((32 : Int32), S_6) := hf.trans (if_neg c_62)
          refine lv_bipush (v := 32) hx hb dX7_compare_80 (by decide) ?_
          exact W.iret hx hb hr (fun t ht hW => ⟨⟨_, S_6, rfl, hf.symm, by rw [ht]; exact hP, va_K.moved hW.alike hK, hD⟩, hS.F ht⟩) hS.2.2 dX7_compare_82
        · have hf : f_X7_compare S x1 x2 x3 = (f_X7_compare_3 S_6 x1 x3 x2) := hf.trans (if_pos c_62)
          refine lv_aload_n hx hb dX7_compare_65 rfl (lv_at hl 2 rfl) ?_
          refine lv_iload hx hb dX7_compare_66 (lv_at hl 0 rfl) ?_
          refine lv_aload_n hx hb dX7_compare_68 rfl (lv_at hl 2 rfl) ?_
          refine lv_iload_n hx hb dX7_compare_69 rfl (lv_at hl 3 rfl) ?_
          refine lv_iload_n hx hb dX7_compare_70 rfl (lv_at hl 5 rfl) ?_
          refine vp_callSl (va_Run.run (va_runV (As := [.int x1, .int x3]) (rest := [.int (nI (mk S_6 x1.toNatClampNeg)), .ref o]) ⟨hx, hb, hml, hown, hts⟩ (c_X7_at l dC dI o r cI cJ S_6 x1 x3 (mRow.in0 hI (mPl.row hL3)) (mPl.at hI hL3)) (cwV 2 hts (gV iX7_at (zin__r11 (.methodLink RX7 155 yX7_at) (List.mem_of_getElem? (i := 2) rfl))) rfl rfl rfl (by decide +kernel) ⟨Nat.le_of_ble_eq_true rfl, Nat.le_of_ble_eq_true rfl⟩) ⟨fun a U g mk q => ⟨q.1, mW_bl q.2⟩, (mW_rv hw), fun U hU hW => ⟨rfl, mW_mv hw hU hW⟩⟩ rfl rfl hl.1 rfl (lv_room (Nat.le_of_ble_eq_true rfl)) dX7_compare_71 ⟨Nat.zero_le _, Nat.zero_le _⟩)) (fun r_71 hr_71 => ?_)
          subst hr_71
          refine vp_callSi (va_Run.run (va_runV (As := [.int (nI (mk S_6 x1.toNatClampNeg)), .long (f_X7_at S_6 x1 x3)]) (rest := []) ⟨hx, hb, hml, hown, hts⟩ (c_X7_none l o r (mk S_6 x1.toNatClampNeg) (mRow.k hI (mPl.row hL)) (f_X7_at S_6 x1 x3)) (cwV 2 hts (gV iX7_none (zin__r7 (.methodLink RX7 98 yX7_none) (List.mem_of_getElem? (i := 17) rfl))) rfl rfl rfl (by decide +kernel) ⟨Nat.le_of_ble_eq_true rfl, Nat.le_of_ble_eq_true rfl⟩) ⟨fun a U g mk q => ⟨q.1, mU_bl q.2⟩, (mW_rv hw), fun U hU hW => ⟨rfl, mU_mvH hm hU hW⟩⟩ rfl rfl hl.1 rfl (lv_room (Nat.le_of_ble_eq_true rfl)) dX7_compare_74 ⟨Nat.zero_le _, Nat.zero_le _⟩)) (fun r_74 hr_74 => ?_)
          subst hr_74
          refine lv_if_eq (tgt := 83) hx hb dX7_compare_77 (by decide) (fun c_77 => ?_) (fun c_77 => ?_)
          · have hf : f_X7_compare S x1 x2 x3 = (f_X7_compare_2 (f_X7_rank (mk S_6 x1.toNatClampNeg) (f_X7_at S_6 x1 x3)) (f_X7_rank (mk S_6 x1.toNatClampNeg) (f_X7_at S_6 x1 x2)) S_6) := hf.trans (if_pos c_77)
            refine lv_aload_n hx hb dX7_compare_83 rfl (lv_at hl 2 rfl) ?_
            refine lv_iload hx hb dX7_compare_84 (lv_at hl 0 rfl) ?_
            refine lv_aload_n hx hb dX7_compare_86 rfl (lv_at hl 2 rfl) ?_
            refine lv_iload_n hx hb dX7_compare_87 rfl (lv_at hl 3 rfl) ?_
            refine lv_iload_n hx hb dX7_compare_88 rfl (lv_at hl 4 rfl) ?_
            refine vp_callSl (va_Run.run (va_runV (As := [.int x1, .int x2]) (rest := [.int (nI (mk S_6 x1.toNatClampNeg)), .ref o]) ⟨hx, hb, hml, hown, hts⟩ (c_X7_at l dC dI o r cI cJ S_6 x1 x2 (mRow.in0 hI (mPl.row hL)) (mPl.at hI hL)) (cwV 2 hts (gV iX7_at (zin__r11 (.methodLink RX7 155 yX7_at) (List.mem_of_getElem? (i := 2) rfl))) rfl rfl rfl (by decide +kernel) ⟨Nat.le_of_ble_eq_true rfl, Nat.le_of_ble_eq_true rfl⟩) ⟨fun a U g mk q => ⟨q.1, mW_bl q.2⟩, (mW_rv hw), fun U hU hW => ⟨rfl, mW_mv hw hU hW⟩⟩ rfl rfl hl.1 rfl (lv_room (Nat.le_of_ble_eq_true rfl)) dX7_compare_89 ⟨Nat.zero_le _, Nat.zero_le _⟩)) (fun r_89 hr_89 => ?_)
            subst hr_89
            refine vp_callSl (va_Run.run (va_runV (As := [.int (nI (mk S_6 x1.toNatClampNeg)), .long (f_X7_at S_6 x1 x2)]) (rest := []) ⟨hx, hb, hml, hown, hts⟩ (c_X7_rank l o r (mk S_6 x1.toNatClampNeg) (mRow.k hI (mPl.row hL)) (f_X7_at S_6 x1 x2)) (cwV 2 hts (gV iX7_rank (zin__r14 (.methodLink RX7 133 yX7_rank) (List.mem_of_getElem? (i := 11) rfl))) rfl rfl rfl (by decide +kernel) ⟨Nat.le_of_ble_eq_true rfl, Nat.le_of_ble_eq_true rfl⟩) ⟨fun a U g mk q => ⟨q.1, mU_bl q.2⟩, (mW_rv hw), fun U hU hW => ⟨rfl, mU_mvH hm hU hW⟩⟩ rfl rfl hl.1 rfl (lv_room (Nat.le_of_ble_eq_true rfl)) dX7_compare_92 ⟨Nat.zero_le _, Nat.zero_le _⟩)) (fun r_92 hr_92 => ?_)
            subst hr_92
            refine lv_topl (fun v6_7 e_v6_7 => ?_)
            have hf : f_X7_compare S x1 x2 x3 = (f_X7_compare_2 (f_X7_rank (mk S_6 x1.toNatClampNeg) (f_X7_at S_6 x1 x3)) v6_7 S_6) := hf.trans (congrArg (fun z => (f_X7_compare_2 (f_X7_rank (mk S_6 x1.toNatClampNeg) (f_X7_at S_6 x1 x3)) z S_6)) e_v6_7.symm)
            refine lv_lstore (lv' := [(6, .long v6_7), (5, .int (nI (mk S_6 x1.toNatClampNeg))), (4, .int v4_1), (0, .ref o), (1, .int x1), (2, .int x2), (3, .int x3)]) hx hb dX7_compare_95 hl (by decide) rfl (fun ls hl => ?_)
            refine lv_aload_n hx hb dX7_compare_97 rfl (lv_at hl 3 rfl) ?_
            refine lv_iload hx hb dX7_compare_98 (lv_at hl 1 rfl) ?_
            refine lv_aload_n hx hb dX7_compare_100 rfl (lv_at hl 3 rfl) ?_
            refine lv_iload_n hx hb dX7_compare_101 rfl (lv_at hl 4 rfl) ?_
            refine lv_iload_n hx hb dX7_compare_102 rfl (lv_at hl 6 rfl) ?_
            refine vp_callSl (va_Run.run (va_runV (As := [.int x1, .int x3]) (rest := [.int (nI (mk S_6 x1.toNatClampNeg)), .ref o]) ⟨hx, hb, hml, hown, hts⟩ (c_X7_at l dC dI o r cI cJ S_6 x1 x3 (mRow.in0 hI (mPl.row hL3)) (mPl.at hI hL3)) (cwV 2 hts (gV iX7_at (zin__r11 (.methodLink RX7 155 yX7_at) (List.mem_of_getElem? (i := 2) rfl))) rfl rfl rfl (by decide +kernel) ⟨Nat.le_of_ble_eq_true rfl, Nat.le_of_ble_eq_true rfl⟩) ⟨fun a U g mk q => ⟨q.1, mW_bl q.2⟩, (mW_rv hw), fun U hU hW => ⟨rfl, mW_mv hw hU hW⟩⟩ rfl rfl hl.1 rfl (lv_room (Nat.le_of_ble_eq_true rfl)) dX7_compare_103 ⟨Nat.zero_le _, Nat.zero_le _⟩)) (fun r_103 hr_103 => ?_)
            subst hr_103
            refine vp_callSl (va_Run.run (va_runV (As := [.int (nI (mk S_6 x1.toNatClampNeg)), .long (f_X7_at S_6 x1 x3)]) (rest := []) ⟨hx, hb, hml, hown, hts⟩ (c_X7_rank l o r (mk S_6 x1.toNatClampNeg) (mRow.k hI (mPl.row hL)) (f_X7_at S_6 x1 x3)) (cwV 2 hts (gV iX7_rank (zin__r14 (.methodLink RX7 133 yX7_rank) (List.mem_of_getElem? (i := 11) rfl))) rfl rfl rfl (by decide +kernel) ⟨Nat.le_of_ble_eq_true rfl, Nat.le_of_ble_eq_true rfl⟩) ⟨fun a U g mk q => ⟨q.1, mU_bl q.2⟩, (mW_rv hw), fun U hU hW => ⟨rfl, mU_mvH hm hU hW⟩⟩ rfl rfl hl.1 rfl (lv_room (Nat.le_of_ble_eq_true rfl)) dX7_compare_106 ⟨Nat.zero_le _, Nat.zero_le _⟩)) (fun r_106 hr_106 => ?_)
            subst hr_106
            refine lv_topl (fun v8_8 e_v8_8 => ?_)
            have hf : f_X7_compare S x1 x2 x3 = (f_X7_compare_2 v8_8 v6_7 S_6) := hf.trans (congrArg (fun z => (f_X7_compare_2 z v6_7 S_6)) e_v8_8.symm)
            refine lv_lstore (lv' := [(8, .long v8_8), (6, .long v6_7), (5, .int (nI (mk S_6 x1.toNatClampNeg))), (4, .int v4_1), (0, .ref o), (1, .int x1), (2, .int x2), (3, .int x3)]) hx hb dX7_compare_109 hl (by decide) rfl (fun ls hl => ?_)
            refine lv_lload hx hb dX7_compare_111 (lv_at hl 1 rfl) ?_
            refine lv_lload hx hb dX7_compare_113 (lv_at hl 0 rfl) ?_
            refine W.lcmp hx hb dX7_compare_115 ?_
            refine lv_if_ge (tgt := 124) hx hb dX7_compare_116 (by decide) (fun c_116 => ?_) (fun c_116 => ?_)
            · have c_116 : v8_8 ≤ v6_7 := (lg_cmp_ge v6_7 v8_8).mp c_116
              have hf : f_X7_compare S x1 x2 x3 = (f_X7_compare_1 v6_7 v8_8 S_6) := hf.trans (if_pos c_116)
              refine lv_lload hx hb dX7_compare_124 (lv_at hl 1 rfl) ?_
              refine lv_lload hx hb dX7_compare_126 (lv_at hl 0 rfl) ?_
              refine W.lcmp hx hb dX7_compare_128 ?_
              refine lv_if_ne (tgt := 137) hx hb dX7_compare_129 (by decide) (fun c_129 => ?_) (fun c_129 => ?_)
              · have c_129 : ¬ (v6_7 = v8_8) := fun h9 => c_129 ((lg_cmp_eq v6_7 v8_8).mpr h9)
                have hf : f_X7_compare S x1 x2 x3 = ((52 : Int32), S_6) := hf.trans (if_neg c_129)
                refine lv_bipush (v := 52) hx hb dX7_compare_137 (by decide) ?_
                exact W.iret hx hb hr (fun t ht hW => ⟨⟨_, S_6, rfl, hf.symm, by rw [ht]; exact hP, va_K.moved hW.alike hK, hD⟩, hS.F ht⟩) hS.2.2 dX7_compare_139
              · have c_129 : v6_7 = v8_8 := (lg_cmp_eq v6_7 v8_8).mp c_129
                have hf : f_X7_compare S x1 x2 x3 = ((26 : Int32), S_6) := hf.trans (if_pos c_129)
                refine lv_bipush (v := 26) hx hb dX7_compare_132 (by decide) ?_
                refine lv_goto (tgt := 139) hx hb dX7_compare_134 (by decide) ?_
                exact W.iret hx hb hr (fun t ht hW => ⟨⟨_, S_6, rfl, hf.symm, by rw [ht]; exact hP, va_K.moved hW.alike hK, hD⟩, hS.F ht⟩) hS.2.2 dX7_compare_139
            · have c_116 : ¬ (v8_8 ≤ v6_7) := fun h9 => c_116 ((lg_cmp_ge v6_7 v8_8).mpr h9)
              have hf : f_X7_compare S x1 x2 x3 = ((41 : Int32), S_6) := hf.trans (if_neg c_116)
              refine lv_bipush (v := 41) hx hb dX7_compare_119 (by decide) ?_
              refine lv_goto (tgt := 139) hx hb dX7_compare_121 (by decide) ?_
              exact W.iret hx hb hr (fun t ht hW => ⟨⟨_, S_6, rfl, hf.symm, by rw [ht]; exact hP, va_K.moved hW.alike hK, hD⟩, hS.F ht⟩) hS.2.2 dX7_compare_139
          · have hf : f_X7_compare S x1 x2 x3 = ((32 : Int32), S_6) := hf.trans (if_neg c_77)
            refine lv_bipush (v := 32) hx hb dX7_compare_80 (by decide) ?_
            exact W.iret hx hb hr (fun t ht hW => ⟨⟨_, S_6, rfl, hf.symm, by rw [ht]; exact hP, va_K.moved hW.alike hK, hD⟩, hS.F ht⟩) hS.2.2 dX7_compare_82
      · have hf : f_X7_compare S x1 x2 x3 = (f_X7_compare_5 (f_X7_no S v4_1)) := hf.trans (if_neg c_27)
        refine lv_aload_n hx hb dX7_compare_30 rfl (lv_at hl 1 rfl) ?_
        refine lv_iload hx hb dX7_compare_31 (lv_at hl 0 rfl) ?_
        have hFc := va_free (wc := mWs o r cI cJ S) hD hS hA [0, 1, 2, 3, 4, 5, 6, 7, 8, 9, 10, 11, 12, 13, 14, 15, 16] rfl
        refine va_calli (va_runV (As := [.int v4_1]) (rest := []) ⟨hx, hb, hml, hown, hts⟩ (c_X7_no l dC dI o r cI cJ s.heap.size S v4_1) (cwV 1 hts (gV iX7_no (zin__r4 (.methodLink RX7 139 yX7_no) (List.mem_of_getElem? (i := 14) rfl))) rfl rfl rfl (by decide +kernel) ⟨Nat.le_of_ble_eq_true rfl, Nat.le_of_ble_eq_true rfl⟩) ⟨fun a U g mk q => ⟨q.1, mB_bl q.2⟩, mW_rv hw, fun U hU hW => ⟨rfl, mB_mv hw hD hU hW⟩⟩ rfl rfl hl.1 rfl (lv_room (Nat.le_of_ble_eq_true rfl)) dX7_compare_33 ⟨Nat.zero_le _, Nat.zero_le _⟩) hS (fun q _ h => hFc q h) hFc (fun r_33 S_9 t H1 locs ht hvm hw1 hB hz1 hk1 hS => ?_)
        obtain ⟨hP, -, hD1⟩ := hB
        rw [ht] at hP
        have hD := hD1.weaken (fun k q _ h => hFc q.1 h)
        generalize H1 = H at hP hS ⊢
        have hw : mH dC dI o r cI cJ S_9 s H := ⟨hP, hK⟩
        have hm := mA_of hts hw
        have hf : f_X7_compare S x1 x2 x3 = (r_33, S_9) := hf.trans (congrArg (fun z => (f_X7_compare_5 z)) hw1.symm)
        exact W.iret hx hb hr (fun t ht hW => ⟨⟨_, S_9, rfl, hf.symm, by rw [ht]; exact hP, va_K.moved hW.alike hK, hD⟩, hS.F ht⟩) hS.2.2 dX7_compare_36
    · have hf : f_X7_compare S x1 x2 x3 = (f_X7_compare_5 (f_X7_no S (2 : Int32))) := hf.trans (if_neg c_19)
      refine lv_iconst (v := 2) hx hb dX7_compare_22 (by decide) ?_
      refine lv_istore (lv' := [(4, .int (2 : Int32)), (0, .ref o), (1, .int x1), (2, .int x2), (3, .int x3)]) hx hb dX7_compare_23 hl (by decide) rfl (fun ls hl => ?_)
      refine lv_iload hx hb dX7_compare_25 (lv_at hl 0 rfl) ?_
      refine lv_if_le (tgt := 37) hx hb dX7_compare_27 (by decide) (fun c_27 => ?_) (fun c_27 => ?_)
      · exact absurd c_27 (by decide)
      · refine lv_aload_n hx hb dX7_compare_30 rfl (lv_at hl 1 rfl) ?_
        refine lv_iload hx hb dX7_compare_31 (lv_at hl 0 rfl) ?_
        have hFc := va_free (wc := mWs o r cI cJ S) hD hS hA [0, 1, 2, 3, 4, 5, 6, 7, 8, 9, 10, 11, 12, 13, 14, 15, 16] rfl
        refine va_calli (va_runV (As := [.int (2 : Int32)]) (rest := []) ⟨hx, hb, hml, hown, hts⟩ (c_X7_no l dC dI o r cI cJ s.heap.size S (2 : Int32)) (cwV 1 hts (gV iX7_no (zin__r4 (.methodLink RX7 139 yX7_no) (List.mem_of_getElem? (i := 14) rfl))) rfl rfl rfl (by decide +kernel) ⟨Nat.le_of_ble_eq_true rfl, Nat.le_of_ble_eq_true rfl⟩) ⟨fun a U g mk q => ⟨q.1, mB_bl q.2⟩, mW_rv hw, fun U hU hW => ⟨rfl, mB_mv hw hD hU hW⟩⟩ rfl rfl hl.1 rfl (lv_room (Nat.le_of_ble_eq_true rfl)) dX7_compare_33 ⟨Nat.zero_le _, Nat.zero_le _⟩) hS (fun q _ h => hFc q h) hFc (fun r_33 S_10 t H1 locs ht hvm hw1 hB hz1 hk1 hS => ?_)
        obtain ⟨hP, -, hD1⟩ := hB
        rw [ht] at hP
        have hD := hD1.weaken (fun k q _ h => hFc q.1 h)
        generalize H1 = H at hP hS ⊢
        have hw : mH dC dI o r cI cJ S_10 s H := ⟨hP, hK⟩
        have hm := mA_of hts hw
        have hf : f_X7_compare S x1 x2 x3 = (r_33, S_10) := hf.trans (congrArg (fun z => (f_X7_compare_5 z)) hw1.symm)
        exact W.iret hx hb hr (fun t ht hW => ⟨⟨_, S_10, rfl, hf.symm, by rw [ht]; exact hP, va_K.moved hW.alike hK, hD⟩, hS.F ht⟩) hS.2.2 dX7_compare_36
def f_X7_total_1 (S_2 : MSt) (x1 : Int32) (x2 : Int32) (x3 : Int32) : Int32 × MSt := ((f_X7_order (mk S_2 x1.toNatClampNeg) (f_X7_at S_2 x1 x2) (f_X7_at S_2 x1 x3)), S_2)
def f_X7_total_2 (p9 : Int32 × MSt) : Int32 × MSt := (p9.1, p9.2)
def f_X7_total_3 (v4_1 : Int32) (S : MSt) (x1 : Int32) (x2 : Int32) (x3 : Int32) : Int32 × MSt := if v4_1 ≤ 0 then (f_X7_total_1 (mset_s S (0 : Int32)) x1 x2 x3) else (f_X7_total_2 (f_X7_no S v4_1))
def f_X7_total_4 (S : MSt) (x1 : Int32) (x3 : Int32) (v4_1 : Int32) (x2 : Int32) : Int32 × MSt := if (f_X7_outside S x1 x3) = 0 then (f_X7_total_3 v4_1 S x1 x2 x3) else (f_X7_total_2 (f_X7_no S (2 : Int32)))
def f_X7_total_5 (v4_1 : Int32) (S : MSt) (x1 : Int32) (x3 : Int32) (x2 : Int32) : Int32 × MSt := if v4_1 = 0 then (f_X7_total_4 S x1 x3 v4_1 x2) else (f_X7_total_3 v4_1 S x1 x2 x3)
def f_X7_total (S : MSt) (x1 : Int32) (x2 : Int32) (x3 : Int32) : Int32 × MSt := (f_X7_total_5 (f_X7_bad S x1 x2) S x1 x3 x2)
def zX7_total : List Cond := .code yX7_total cX7_total 5 (some .int) :: zall
theorem iX7_total : MWv RX7 yX7_total (.code yX7_total cX7_total 5 (some .int)) := ⟨(zin__r15 (.instanceMethod yX7_total) (List.mem_of_getElem? (i := 12) rfl)), (zin__r15 (.selects RX7 yX7_total yX7_total) (List.mem_of_getElem? (i := 13) rfl)), (zin__r1 (.initialized RX7) (List.mem_of_getElem? (i := 5) rfl)), (zin__r15 (.code yX7_total cX7_total 5 (some .int)) (List.mem_of_getElem? (i := 14) rfl))⟩
set_option maxHeartbeats 4000000 in
set_option maxRecDepth 100000 in
theorem c_X7_total (l : Launch) (dC : Nat → ClassId) (dI : Nat → Nat → Nat) (o : Nat) (r : Nat → Nat) (cI cJ : ClassId) (sz : Nat) (S : MSt) (x1 : Int32) (x2 : Int32) (x3 : Int32) (hI : mInv S) : Met l yX7_total zX7_total ({ frames := 3, cells := 0, slots := 0, locals := 71 }) (va_Pc [.ref o, .int x1, .int x2, .int x3] (fun U => mB dC dI o r cI cJ sz S U)) (va_Qi (fun r9 S9 => (r9, S9) = f_X7_total S x1 x2 x3) (mE dC dI o r cI cJ (va_A (mWs o r cI cJ S) sz)) (va_A (mWs o r cI cJ S) sz)) 0 0 (va_A (mWs o r cI cJ S) sz) := by
  refine Met.ofW (cc := cX7_total) (maxL := 5) (ret := (some .int)) (by decide) rfl ?_
  intro p e s m args below meth c s₁ B hml hv
  obtain ⟨rfl, hsz, hP, hK, hD0⟩ := hv
  have hx := B.exec
  have hb := B.bytes
  have hr := B.returns
  have hts : ∀ w ∈ zall, w.before _ s = true := fun w h => atoms_spec (ws := zX7_total) B.pre w (List.mem_cons_of_mem _ h)
  have hown : s.vm.findClass RX7 = some m.cls := findClass_of_methodNamed B.named
  have hlocks := B.notSynchronized
  subst hsz
  have hD := hD0.self (sz := s.heap.size)
  generalize hAe : va_A (mWs o r cI cJ S) s.heap.size = A at hD ⊢
  have hA : ∀ q : Nat, s.heap.size ≤ q → A q := fun q h => by rw [← hAe]; exact Or.inr h
  have hS : va_S A s.heap s.heap [] := va_S.rf
  have hw : mH dC dI o r cI cJ S s s.heap := ⟨hP, hK⟩
  have hm := mA_of hts hw
  have hl := lv_entry ([.ref o, .int x1, .int x2, .int x3]) (n := 5) (Nat.le_of_ble_eq_true rfl)
  rw [lg_entry_eq]
  generalize (lg_sl ([.ref o, .int x1, .int x2, .int x3]) ++ List.replicate (5 - (lg_sl ([.ref o, .int x1, .int x2, .int x3])).length) Slot.unset).toArray = ls at hl ⊢
  have hl : lv_has ls 5 [(0, .ref o), (1, .int x1), (2, .int x2), (3, .int x3)] := hl
  have hf : f_X7_total S x1 x2 x3 = (f_X7_total_5 (f_X7_bad S x1 x2) S x1 x3 x2) := rfl
  refine lv_aload_n hx hb dX7_total_0 rfl (lv_at hl 0 rfl) ?_
  refine lv_iload_n hx hb dX7_total_1 rfl (lv_at hl 1 rfl) ?_
  refine lv_iload_n hx hb dX7_total_2 rfl (lv_at hl 2 rfl) ?_
  refine vp_callSi (va_Run.run (va_runV (As := [.int x1, .int x2]) (rest := []) ⟨hx, hb, hml, hown, hts⟩ (c_X7_bad l dC dI o r cI cJ S x1 x2 hI) (cwV 2 hts (gV iX7_bad (zin__r6 (.methodLink RX7 142 yX7_bad) (List.mem_of_getElem? (i := 15) rfl))) rfl rfl rfl (by decide +kernel) ⟨Nat.le_of_ble_eq_true rfl, Nat.le_of_ble_eq_true rfl⟩) ⟨fun a U g mk q => ⟨q.1, mW_bl q.2⟩, (mW_rv hw), fun U hU hW => ⟨rfl, mW_mv hw hU hW⟩⟩ rfl rfl hl.1 rfl (lv_room (Nat.le_of_ble_eq_true rfl)) dX7_total_3 ⟨Nat.zero_le _, Nat.zero_le _⟩)) (fun r_3 hr_3 => ?_)
  subst hr_3
  refine lv_topi (fun v4_1 e_v4_1 => ?_)
  have hf : f_X7_total S x1 x2 x3 = (f_X7_total_5 v4_1 S x1 x3 x2) := hf.trans (congrArg (fun z => (f_X7_total_5 z S x1 x3 x2)) e_v4_1.symm)
  refine lv_istore (lv' := [(4, .int v4_1), (0, .ref o), (1, .int x1), (2, .int x2), (3, .int x3)]) hx hb dX7_total_6 hl (by decide) rfl (fun ls hl => ?_)
  refine lv_iload hx hb dX7_total_8 (lv_at hl 0 rfl) ?_
  refine lv_if_ne (tgt := 25) hx hb dX7_total_10 (by decide) (fun c_10 => ?_) (fun c_10 => ?_)
  · have hf : f_X7_total S x1 x2 x3 = (f_X7_total_3 v4_1 S x1 x2 x3) := hf.trans (if_neg c_10)
    refine lv_iload hx hb dX7_total_25 (lv_at hl 0 rfl) ?_
    refine lv_if_le (tgt := 37) hx hb dX7_total_27 (by decide) (fun c_27 => ?_) (fun c_27 => ?_)
    · have hf : f_X7_total S x1 x2 x3 = (f_X7_total_1 (mset_s S (0 : Int32)) x1 x2 x3) := hf.trans (if_pos c_27)
      have hL : mPl S x1 x2 := why_ok hI e_v4_1 c_27
      have hL3 : mPl S x1 x3 := (by first | exact out_ok hI (mPl.row hL) c_19 | exact absurd (why_zero hI e_v4_1 c_27) c_10)
      refine lv_aload_n hx hb dX7_total_37 rfl (lv_at hl 1 rfl) ?_
      refine lv_iconst (v := 0) hx hb dX7_total_38 (by decide) ?_
      refine va_put (D := (dC, dI)) (ci := 5) (v := .int (0 : Int32)) (ty := .int) (C := RX7) (T := TX7) (N := 18) hx hb hts zin_X7 tyX7 tyX7_ok nmX7 hown hK hP hD hS 0 rfl rfl 17 (by decide) (hts _ (zin__r4 (.fieldLink RX7 75 "ReckonBenchModel" "status" "I") (List.mem_of_getElem? (i := 13) rfl))) (fun _ h9 => h9) rfl (by decide +kernel) rfl rfl (Nat.le_of_ble_eq_true rfl) dX7_total_39 (fun H locs hP hD hS => ?_)
      obtain ⟨S_2, e_S_2⟩ : ∃ z : MSt, z = (mset_s S (0 : Int32)) := ⟨_, rfl⟩
      have hP : va_P (dC, dI) vwCl (mWs o r cI cJ S_2) H := by rw [e_S_2]; exact hP
      have hD : va_D A (mWs o r cI cJ S_2) := by rw [e_S_2]; exact hD
      have hw : mH dC dI o r cI cJ S_2 s H := ⟨hP, hK⟩
      have hm := mA_of hts hw
      have hI : mInv S_2 := by rw [e_S_2]; exact hI
      have hL : mPl S_2 x1 x2 := by rw [e_S_2]; exact hL
      have hL3 : mPl S_2 x1 x3 := by rw [e_S_2]; exact hL3
      have hf : f_X7_total S x1 x2 x3 = (f_X7_total_1 S_2 x1 x2 x3) := hf.trans (congrArg (fun z => (f_X7_total_1 z x1 x2 x3)) e_S_2.symm)
      refine lv_aload_n hx hb dX7_total_42 rfl (lv_at hl 1 rfl) ?_
      refine lv_aload_n hx hb dX7_total_43 rfl (lv_at hl 1 rfl) ?_
      refine va_get (D := (dC, dI)) (ci := 5) (v := .ref (r 8)) (C := RX7) (T := TX7) (N := 18) hx hb hts zin_X7 hown hK hP 0 rfl rfl 8 (by decide) (hts _ (zin__r3 (.fieldLink RX7 51 "ReckonBenchModel" "kinds" "[I") (List.mem_of_getElem? (i := 2) rfl))) (fun _ h9 => h9) rfl dX7_total_44 ?_
      refine lv_iload_n hx hb dX7_total_47 rfl (lv_at hl 2 rfl) ?_
      refine va_iald (f := fun j => nI (mk S_2 j)) hx hb hK hP 9 0 rfl rfl (mRow.in2 hI (mPl.row hL)) dX7_total_48 ?_
      refine lv_aload_n hx hb dX7_total_49 rfl (lv_at hl 1 rfl) ?_
      refine lv_iload_n hx hb dX7_total_50 rfl (lv_at hl 2 rfl) ?_
      refine lv_iload_n hx hb dX7_total_51 rfl (lv_at hl 3 rfl) ?_
      refine vp_callSl (va_Run.run (va_runV (As := [.int x1, .int x2]) (rest := [.int (nI (mk S_2 x1.toNatClampNeg)), .ref o]) ⟨hx, hb, hml, hown, hts⟩ (c_X7_at l dC dI o r cI cJ S_2 x1 x2 (mRow.in0 hI (mPl.row hL)) (mPl.at hI hL)) (cwV 2 hts (gV iX7_at (zin__r11 (.methodLink RX7 155 yX7_at) (List.mem_of_getElem? (i := 2) rfl))) rfl rfl rfl (by decide +kernel) ⟨Nat.le_of_ble_eq_true rfl, Nat.le_of_ble_eq_true rfl⟩) ⟨fun a U g mk q => ⟨q.1, mW_bl q.2⟩, (mW_rv hw), fun U hU hW => ⟨rfl, mW_mv hw hU hW⟩⟩ rfl rfl hl.1 rfl (lv_room (Nat.le_of_ble_eq_true rfl)) dX7_total_52 ⟨Nat.zero_le _, Nat.zero_le _⟩)) (fun r_52 hr_52 => ?_)
      subst hr_52
      refine lv_aload_n hx hb dX7_total_55 rfl (lv_at hl 1 rfl) ?_
      refine lv_iload_n hx hb dX7_total_56 rfl (lv_at hl 2 rfl) ?_
      refine lv_iload_n hx hb dX7_total_57 rfl (lv_at hl 4 rfl) ?_
      refine vp_callSl (va_Run.run (va_runV (As := [.int x1, .int x3]) (rest := [.long (f_X7_at S_2 x1 x2), .int (nI (mk S_2 x1.toNatClampNeg)), .ref o]) ⟨hx, hb, hml, hown, hts⟩ (c_X7_at l dC dI o r cI cJ S_2 x1 x3 (mRow.in0 hI (mPl.row hL3)) (mPl.at hI hL3)) (cwV 2 hts (gV iX7_at (zin__r11 (.methodLink RX7 155 yX7_at) (List.mem_of_getElem? (i := 2) rfl))) rfl rfl rfl (by decide +kernel) ⟨Nat.le_of_ble_eq_true rfl, Nat.le_of_ble_eq_true rfl⟩) ⟨fun a U g mk q => ⟨q.1, mW_bl q.2⟩, (mW_rv hw), fun U hU hW => ⟨rfl, mW_mv hw hU hW⟩⟩ rfl rfl hl.1 rfl (lv_room (Nat.le_of_ble_eq_true rfl)) dX7_total_58 ⟨Nat.zero_le _, Nat.zero_le _⟩)) (fun r_58 hr_58 => ?_)
      subst hr_58
      refine vp_callSi (va_Run.run (va_runV (As := [.int (nI (mk S_2 x1.toNatClampNeg)), .long (f_X7_at S_2 x1 x2), .long (f_X7_at S_2 x1 x3)]) (rest := []) ⟨hx, hb, hml, hown, hts⟩ (c_X7_order l o r (mk S_2 x1.toNatClampNeg) (mRow.k hI (mPl.row hL)) (f_X7_at S_2 x1 x2) (f_X7_at S_2 x1 x3)) (cwV 3 hts (gV iX7_order (zin__r15 (.methodLink RX7 171 yX7_order) (List.mem_of_getElem? (i := 15) rfl))) rfl rfl rfl (by decide +kernel) ⟨Nat.le_of_ble_eq_true rfl, Nat.le_of_ble_eq_true rfl⟩) ⟨fun a U g mk q => ⟨q.1, mU_bl q.2⟩, (mW_rv hw), fun U hU hW => ⟨rfl, mU_mvH hm hU hW⟩⟩ rfl rfl hl.1 rfl (lv_room (Nat.le_of_ble_eq_true rfl)) dX7_total_61 ⟨Nat.zero_le _, Nat.zero_le _⟩)) (fun r_61 hr_61 => ?_)
      subst hr_61
      exact W.iret hx hb hr (fun t ht hW => ⟨⟨_, S_2, rfl, hf.symm, by rw [ht]; exact hP, va_K.moved hW.alike hK, hD⟩, hS.F ht⟩) hS.2.2 dX7_total_64
    · have hf : f_X7_total S x1 x2 x3 = (f_X7_total_2 (f_X7_no S v4_1)) := hf.trans (if_neg c_27)
      refine lv_aload_n hx hb dX7_total_30 rfl (lv_at hl 1 rfl) ?_
      refine lv_iload hx hb dX7_total_31 (lv_at hl 0 rfl) ?_
      have hFc := va_free (wc := mWs o r cI cJ S) hD hS hA [0, 1, 2, 3, 4, 5, 6, 7, 8, 9, 10, 11, 12, 13, 14, 15, 16] rfl
      refine va_calli (va_runV (As := [.int v4_1]) (rest := []) ⟨hx, hb, hml, hown, hts⟩ (c_X7_no l dC dI o r cI cJ s.heap.size S v4_1) (cwV 1 hts (gV iX7_no (zin__r4 (.methodLink RX7 139 yX7_no) (List.mem_of_getElem? (i := 14) rfl))) rfl rfl rfl (by decide +kernel) ⟨Nat.le_of_ble_eq_true rfl, Nat.le_of_ble_eq_true rfl⟩) ⟨fun a U g mk q => ⟨q.1, mB_bl q.2⟩, mW_rv hw, fun U hU hW => ⟨rfl, mB_mv hw hD hU hW⟩⟩ rfl rfl hl.1 rfl (lv_room (Nat.le_of_ble_eq_true rfl)) dX7_total_33 ⟨Nat.zero_le _, Nat.zero_le _⟩) hS (fun q _ h => hFc q h) hFc (fun r_33 S_3 t H1 locs ht hvm hw1 hB hz1 hk1 hS => ?_)
      obtain ⟨hP, -, hD1⟩ := hB
      rw [ht] at hP
      have hD := hD1.weaken (fun k q _ h => hFc q.1 h)
      generalize H1 = H at hP hS ⊢
      have hw : mH dC dI o r cI cJ S_3 s H := ⟨hP, hK⟩
      have hm := mA_of hts hw
      have hf : f_X7_total S x1 x2 x3 = (r_33, S_3) := hf.trans (congrArg (fun z => (f_X7_total_2 z)) hw1.symm)
      exact W.iret hx hb hr (fun t ht hW => ⟨⟨_, S_3, rfl, hf.symm, by rw [ht]; exact hP, va_K.moved hW.alike hK, hD⟩, hS.F ht⟩) hS.2.2 dX7_total_36
  · have hf : f_X7_total S x1 x2 x3 = (f_X7_total_4 S x1 x3 v4_1 x2) := hf.trans (if_pos c_10)
    have hL0 : mPl S x1 x2 := why_ok0 hI e_v4_1 c_10
    refine lv_aload_n hx hb dX7_total_13 rfl (lv_at hl 1 rfl) ?_
    refine lv_iload_n hx hb dX7_total_14 rfl (lv_at hl 2 rfl) ?_
    refine lv_iload_n hx hb dX7_total_15 rfl (lv_at hl 4 rfl) ?_
    refine vp_callSi (va_Run.run (va_runV (As := [.int x1, .int x3]) (rest := []) ⟨hx, hb, hml, hown, hts⟩ (c_X7_outside l dC dI o r cI cJ S x1 x3 hI (mPl.row hL0)) (cwV 2 hts (gV iX7_outside (zin__r14 (.methodLink RX7 163 yX7_outside) (List.mem_of_getElem? (i := 7) rfl))) rfl rfl rfl (by decide +kernel) ⟨Nat.le_of_ble_eq_true rfl, Nat.le_of_ble_eq_true rfl⟩) ⟨fun a U g mk q => ⟨q.1, mW_bl q.2⟩, (mW_rv hw), fun U hU hW => ⟨rfl, mW_mv hw hU hW⟩⟩ rfl rfl hl.1 rfl (lv_room (Nat.le_of_ble_eq_true rfl)) dX7_total_16 ⟨Nat.zero_le _, Nat.zero_le _⟩)) (fun r_16 hr_16 => ?_)
    subst hr_16
    refine lv_if_eq (tgt := 25) hx hb dX7_total_19 (by decide) (fun c_19 => ?_) (fun c_19 => ?_)
    · have hf : f_X7_total S x1 x2 x3 = (f_X7_total_3 v4_1 S x1 x2 x3) := hf.trans (if_pos c_19)
      refine lv_iload hx hb dX7_total_25 (lv_at hl 0 rfl) ?_
      refine lv_if_le (tgt := 37) hx hb dX7_total_27 (by decide) (fun c_27 => ?_) (fun c_27 => ?_)
      · have hf : f_X7_total S x1 x2 x3 = (f_X7_total_1 (mset_s S (0 : Int32)) x1 x2 x3) := hf.trans (if_pos c_27)
        have hL : mPl S x1 x2 := why_ok hI e_v4_1 c_27
        have hL3 : mPl S x1 x3 := (by first | exact out_ok hI (mPl.row hL) c_19 | exact absurd (why_zero hI e_v4_1 c_27) c_10)
        refine lv_aload_n hx hb dX7_total_37 rfl (lv_at hl 1 rfl) ?_
        refine lv_iconst (v := 0) hx hb dX7_total_38 (by decide) ?_
        refine va_put (D := (dC, dI)) (ci := 5) (v := .int (0 : Int32)) (ty := .int) (C := RX7) (T := TX7) (N := 18) hx hb hts zin_X7 tyX7 tyX7_ok nmX7 hown hK hP hD hS 0 rfl rfl 17 (by decide) (hts _ (zin__r4 (.fieldLink RX7 75 "ReckonBenchModel" "status" "I") (List.mem_of_getElem? (i := 13) rfl))) (fun _ h9 => h9) rfl (by decide +kernel) rfl rfl (Nat.le_of_ble_eq_true rfl) dX7_total_39 (fun H locs hP hD hS => ?_)
        obtain ⟨S_4, e_S_4⟩ : ∃ z : MSt, z = (mset_s S (0 : Int32)) := ⟨_, rfl⟩
        have hP : va_P (dC, dI) vwCl (mWs o r cI cJ S_4) H := by rw [e_S_4]; exact hP
        have hD : va_D A (mWs o r cI cJ S_4) := by rw [e_S_4]; exact hD
        have hw : mH dC dI o r cI cJ S_4 s H := ⟨hP, hK⟩
        have hm := mA_of hts hw
        have hI : mInv S_4 := by rw [e_S_4]; exact hI
        have hL0 : mPl S_4 x1 x2 := by rw [e_S_4]; exact hL0
        have hL : mPl S_4 x1 x2 := by rw [e_S_4]; exact hL
        have hL3 : mPl S_4 x1 x3 := by rw [e_S_4]; exact hL3
        have hf : f_X7_total S x1 x2 x3 = (f_X7_total_1 S_4 x1 x2 x3) := hf.trans (congrArg (fun z => (f_X7_total_1 z x1 x2 x3)) e_S_4.symm)
        refine lv_aload_n hx hb dX7_total_42 rfl (lv_at hl 1 rfl) ?_
        refine lv_aload_n hx hb dX7_total_43 rfl (lv_at hl 1 rfl) ?_
        refine va_get (D := (dC, dI)) (ci := 5) (v := .ref (r 8)) (C := RX7) (T := TX7) (N := 18) hx hb hts zin_X7 hown hK hP 0 rfl rfl 8 (by decide) (hts _ (zin__r3 (.fieldLink RX7 51 "ReckonBenchModel" "kinds" "[I") (List.mem_of_getElem? (i := 2) rfl))) (fun _ h9 => h9) rfl dX7_total_44 ?_
        refine lv_iload_n hx hb dX7_total_47 rfl (lv_at hl 2 rfl) ?_
        refine va_iald (f := fun j => nI (mk S_4 j)) hx hb hK hP 9 0 rfl rfl (mRow.in2 hI (mPl.row hL)) dX7_total_48 ?_
        refine lv_aload_n hx hb dX7_total_49 rfl (lv_at hl 1 rfl) ?_
        refine lv_iload_n hx hb dX7_total_50 rfl (lv_at hl 2 rfl) ?_
        refine lv_iload_n hx hb dX7_total_51 rfl (lv_at hl 3 rfl) ?_
        refine vp_callSl (va_Run.run (va_runV (As := [.int x1, .int x2]) (rest := [.int (nI (mk S_4 x1.toNatClampNeg)), .ref o]) ⟨hx, hb, hml, hown, hts⟩ (c_X7_at l dC dI o r cI cJ S_4 x1 x2 (mRow.in0 hI (mPl.row hL)) (mPl.at hI hL)) (cwV 2 hts (gV iX7_at (zin__r11 (.methodLink RX7 155 yX7_at) (List.mem_of_getElem? (i := 2) rfl))) rfl rfl rfl (by decide +kernel) ⟨Nat.le_of_ble_eq_true rfl, Nat.le_of_ble_eq_true rfl⟩) ⟨fun a U g mk q => ⟨q.1, mW_bl q.2⟩, (mW_rv hw), fun U hU hW => ⟨rfl, mW_mv hw hU hW⟩⟩ rfl rfl hl.1 rfl (lv_room (Nat.le_of_ble_eq_true rfl)) dX7_total_52 ⟨Nat.zero_le _, Nat.zero_le _⟩)) (fun r_52 hr_52 => ?_)
        subst hr_52
        refine lv_aload_n hx hb dX7_total_55 rfl (lv_at hl 1 rfl) ?_
        refine lv_iload_n hx hb dX7_total_56 rfl (lv_at hl 2 rfl) ?_
        refine lv_iload_n hx hb dX7_total_57 rfl (lv_at hl 4 rfl) ?_
        refine vp_callSl (va_Run.run (va_runV (As := [.int x1, .int x3]) (rest := [.long (f_X7_at S_4 x1 x2), .int (nI (mk S_4 x1.toNatClampNeg)), .ref o]) ⟨hx, hb, hml, hown, hts⟩ (c_X7_at l dC dI o r cI cJ S_4 x1 x3 (mRow.in0 hI (mPl.row hL3)) (mPl.at hI hL3)) (cwV 2 hts (gV iX7_at (zin__r11 (.methodLink RX7 155 yX7_at) (List.mem_of_getElem? (i := 2) rfl))) rfl rfl rfl (by decide +kernel) ⟨Nat.le_of_ble_eq_true rfl, Nat.le_of_ble_eq_true rfl⟩) ⟨fun a U g mk q => ⟨q.1, mW_bl q.2⟩, (mW_rv hw), fun U hU hW => ⟨rfl, mW_mv hw hU hW⟩⟩ rfl rfl hl.1 rfl (lv_room (Nat.le_of_ble_eq_true rfl)) dX7_total_58 ⟨Nat.zero_le _, Nat.zero_le _⟩)) (fun r_58 hr_58 => ?_)
        subst hr_58
        refine vp_callSi (va_Run.run (va_runV (As := [.int (nI (mk S_4 x1.toNatClampNeg)), .long (f_X7_at S_4 x1 x2), .long (f_X7_at S_4 x1 x3)]) (rest := []) ⟨hx, hb, hml, hown, hts⟩ (c_X7_order l o r (mk S_4 x1.toNatClampNeg) (mRow.k hI (mPl.row hL)) (f_X7_at S_4 x1 x2) (f_X7_at S_4 x1 x3)) (cwV 3 hts (gV iX7_order (zin__r15 (.methodLink RX7 171 yX7_order) (List.mem_of_getElem? (i := 15) rfl))) rfl rfl rfl (by decide +kernel) ⟨Nat.le_of_ble_eq_true rfl, Nat.le_of_ble_eq_true rfl⟩) ⟨fun a U g mk q => ⟨q.1, mU_bl q.2⟩, (mW_rv hw), fun U hU hW => ⟨rfl, mU_mvH hm hU hW⟩⟩ rfl rfl hl.1 rfl (lv_room (Nat.le_of_ble_eq_true rfl)) dX7_total_61 ⟨Nat.zero_le _, Nat.zero_le _⟩)) (fun r_61 hr_61 => ?_)
        subst hr_61
        exact W.iret hx hb hr (fun t ht hW => ⟨⟨_, S_4, rfl, hf.symm, by rw [ht]; exact hP, va_K.moved hW.alike hK, hD⟩, hS.F ht⟩) hS.2.2 dX7_total_64
      · have hf : f_X7_total S x1 x2 x3 = (f_X7_total_2 (f_X7_no S v4_1)) := hf.trans (if_neg c_27)
        refine lv_aload_n hx hb dX7_total_30 rfl (lv_at hl 1 rfl) ?_
        refine lv_iload hx hb dX7_total_31 (lv_at hl 0 rfl) ?_
        have hFc := va_free (wc := mWs o r cI cJ S) hD hS hA [0, 1, 2, 3, 4, 5, 6, 7, 8, 9, 10, 11, 12, 13, 14, 15, 16] rfl
        refine va_calli (va_runV (As := [.int v4_1]) (rest := []) ⟨hx, hb, hml, hown, hts⟩ (c_X7_no l dC dI o r cI cJ s.heap.size S v4_1) (cwV 1 hts (gV iX7_no (zin__r4 (.methodLink RX7 139 yX7_no) (List.mem_of_getElem? (i := 14) rfl))) rfl rfl rfl (by decide +kernel) ⟨Nat.le_of_ble_eq_true rfl, Nat.le_of_ble_eq_true rfl⟩) ⟨fun a U g mk q => ⟨q.1, mB_bl q.2⟩, mW_rv hw, fun U hU hW => ⟨rfl, mB_mv hw hD hU hW⟩⟩ rfl rfl hl.1 rfl (lv_room (Nat.le_of_ble_eq_true rfl)) dX7_total_33 ⟨Nat.zero_le _, Nat.zero_le _⟩) hS (fun q _ h => hFc q h) hFc (fun r_33 S_5 t H1 locs ht hvm hw1 hB hz1 hk1 hS => ?_)
        obtain ⟨hP, -, hD1⟩ := hB
        rw [ht] at hP
        have hD := hD1.weaken (fun k q _ h => hFc q.1 h)
        generalize H1 = H at hP hS ⊢
        have hw : mH dC dI o r cI cJ S_5 s H := ⟨hP, hK⟩
        have hm := mA_of hts hw
        have hf : f_X7_total S x1 x2 x3 = (r_33, S_5) := hf.trans (congrArg (fun z => (f_X7_total_2 z)) hw1.symm)
        exact W.iret hx hb hr (fun t ht hW => ⟨⟨_, S_5, rfl, hf.symm, by rw [ht]; exact hP, va_K.moved hW.alike hK, hD⟩, hS.F ht⟩) hS.2.2 dX7_total_36
    · have hf : f_X7_total S x1 x2 x3 = (f_X7_total_2 (f_X7_no S (2 : Int32))) := hf.trans (if_neg c_19)
      refine lv_iconst (v := 2) hx hb dX7_total_22 (by decide) ?_
      refine lv_istore (lv' := [(4, .int (2 : Int32)), (0, .ref o), (1, .int x1), (2, .int x2), (3, .int x3)]) hx hb dX7_total_23 hl (by decide) rfl (fun ls hl => ?_)
      refine lv_iload hx hb dX7_total_25 (lv_at hl 0 rfl) ?_
      refine lv_if_le (tgt := 37) hx hb dX7_total_27 (by decide) (fun c_27 => ?_) (fun c_27 => ?_)
      · exact absurd c_27 (by decide)
      · refine lv_aload_n hx hb dX7_total_30 rfl (lv_at hl 1 rfl) ?_
        refine lv_iload hx hb dX7_total_31 (lv_at hl 0 rfl) ?_
        have hFc := va_free (wc := mWs o r cI cJ S) hD hS hA [0, 1, 2, 3, 4, 5, 6, 7, 8, 9, 10, 11, 12, 13, 14, 15, 16] rfl
        refine va_calli (va_runV (As := [.int (2 : Int32)]) (rest := []) ⟨hx, hb, hml, hown, hts⟩ (c_X7_no l dC dI o r cI cJ s.heap.size S (2 : Int32)) (cwV 1 hts (gV iX7_no (zin__r4 (.methodLink RX7 139 yX7_no) (List.mem_of_getElem? (i := 14) rfl))) rfl rfl rfl (by decide +kernel) ⟨Nat.le_of_ble_eq_true rfl, Nat.le_of_ble_eq_true rfl⟩) ⟨fun a U g mk q => ⟨q.1, mB_bl q.2⟩, mW_rv hw, fun U hU hW => ⟨rfl, mB_mv hw hD hU hW⟩⟩ rfl rfl hl.1 rfl (lv_room (Nat.le_of_ble_eq_true rfl)) dX7_total_33 ⟨Nat.zero_le _, Nat.zero_le _⟩) hS (fun q _ h => hFc q h) hFc (fun r_33 S_6 t H1 locs ht hvm hw1 hB hz1 hk1 hS => ?_)
        obtain ⟨hP, -, hD1⟩ := hB
        rw [ht] at hP
        have hD := hD1.weaken (fun k q _ h => hFc q.1 h)
        generalize H1 = H at hP hS ⊢
        have hw : mH dC dI o r cI cJ S_6 s H := ⟨hP, hK⟩
        have hm := mA_of hts hw
        have hf : f_X7_total S x1 x2 x3 = (r_33, S_6) := hf.trans (congrArg (fun z => (f_X7_total_2 z)) hw1.symm)
        exact W.iret hx hb hr (fun t ht hW => ⟨⟨_, S_6, rfl, hf.symm, by rw [ht]; exact hP, va_K.moved hW.alike hK, hD⟩, hS.F ht⟩) hS.2.2 dX7_total_36
def f_X7_act_1 (p9 : Int32 × MSt) : Int32 × MSt := (p9.1, p9.2)
def f_X7_act_2 (S_2 : MSt) (x1 : Int32) (x5 : Int32) (x2 : Int32) (x3 : Int32) (x4 : Int32) : Int32 × MSt := (f_X7_act_1 (f_X7_keep S_2 x1 x5 (f_X7_result (mk S_2 x1.toNatClampNeg) x2 (f_X7_at S_2 x1 x3) (f_X7_at S_2 x1 x4))))
def f_X7_act_3 (v6_1 : Int32) (S : MSt) (x1 : Int32) (x5 : Int32) (x2 : Int32) (x3 : Int32) (x4 : Int32) : Int32 × MSt := if v6_1 ≤ 0 then (f_X7_act_2 (mset_s S (0 : Int32)) x1 x5 x2 x3 x4) else (f_X7_act_1 (f_X7_no S v6_1))
def f_X7_act_4 (S : MSt) : Int32 × MSt := (f_X7_act_1 (f_X7_no S (2 : Int32)))
def f_X7_act_5 (S : MSt) (x1 : Int32) (x5 : Int32) (v6_1 : Int32) (x2 : Int32) (x3 : Int32) (x4 : Int32) : Int32 × MSt := if (f_X7_outside S x1 x5) = 0 then (f_X7_act_3 v6_1 S x1 x5 x2 x3 x4) else (f_X7_act_4 S)
def f_X7_act_6 (S : MSt) (x1 : Int32) (x4 : Int32) (x5 : Int32) (v6_1 : Int32) (x2 : Int32) (x3 : Int32) : Int32 × MSt := if (f_X7_outside S x1 x4) = 0 then (f_X7_act_5 S x1 x5 v6_1 x2 x3 x4) else (f_X7_act_4 S)
def f_X7_act_7 (x2 : Int32) (S : MSt) (x1 : Int32) (x4 : Int32) (x5 : Int32) (v6_1 : Int32) (x3 : Int32) : Int32 × MSt := if (13 : Int32) < x2 then (f_X7_act_4 S) else (f_X7_act_6 S x1 x4 x5 v6_1 x2 x3)
def f_X7_act_8 (x2 : Int32) (S : MSt) (x1 : Int32) (x4 : Int32) (x5 : Int32) (v6_1 : Int32) (x3 : Int32) : Int32 × MSt := if x2 < 0 then (f_X7_act_4 S) else (f_X7_act_7 x2 S x1 x4 x5 v6_1 x3)
def f_X7_act_9 (v6_1 : Int32) (x2 : Int32) (S : MSt) (x1 : Int32) (x4 : Int32) (x5 : Int32) (x3 : Int32) : Int32 × MSt := if v6_1 = 0 then (f_X7_act_8 x2 S x1 x4 x5 v6_1 x3) else (f_X7_act_3 v6_1 S x1 x5 x2 x3 x4)
def f_X7_act (S : MSt) (x1 : Int32) (x2 : Int32) (x3 : Int32) (x4 : Int32) (x5 : Int32) : Int32 × MSt := (f_X7_act_9 (f_X7_bad S x1 x3) x2 S x1 x4 x5 x3)
def zX7_act : List Cond := .code yX7_act cX7_act 7 (some .int) :: zall
theorem iX7_act : MWv RX7 yX7_act (.code yX7_act cX7_act 7 (some .int)) := ⟨(zin__r20 (.instanceMethod yX7_act) (List.mem_of_getElem? (i := 7) rfl)), (zin__r20 (.selects RX7 yX7_act yX7_act) (List.mem_of_getElem? (i := 8) rfl)), (zin__r1 (.initialized RX7) (List.mem_of_getElem? (i := 5) rfl)), (zin__r20 (.code yX7_act cX7_act 7 (some .int)) (List.mem_of_getElem? (i := 9) rfl))⟩
set_option maxHeartbeats 4000000 in
set_option maxRecDepth 100000 in
theorem c_X7_act (l : Launch) (dC : Nat → ClassId) (dI : Nat → Nat → Nat) (o : Nat) (r : Nat → Nat) (cI cJ : ClassId) (sz : Nat) (S : MSt) (x1 : Int32) (x2 : Int32) (x3 : Int32) (x4 : Int32) (x5 : Int32) (hI : mInv S) : Met l yX7_act zX7_act ({ frames := 5, cells := 0, slots := 0, locals := 145 }) (va_Pc [.ref o, .int x1, .int x2, .int x3, .int x4, .int x5] (fun U => mB dC dI o r cI cJ sz S U)) (va_Qi (fun r9 S9 => (r9, S9) = f_X7_act S x1 x2 x3 x4 x5) (mE dC dI o r cI cJ (va_A (mWs o r cI cJ S) sz)) (va_A (mWs o r cI cJ S) sz)) 0 0 (va_A (mWs o r cI cJ S) sz) := by
  refine Met.ofW (cc := cX7_act) (maxL := 7) (ret := (some .int)) (by decide) rfl ?_
  intro p e s m args below meth c s₁ B hml hv
  obtain ⟨rfl, hsz, hP, hK, hD0⟩ := hv
  have hx := B.exec
  have hb := B.bytes
  have hr := B.returns
  have hts : ∀ w ∈ zall, w.before _ s = true := fun w h => atoms_spec (ws := zX7_act) B.pre w (List.mem_cons_of_mem _ h)
  have hown : s.vm.findClass RX7 = some m.cls := findClass_of_methodNamed B.named
  have hlocks := B.notSynchronized
  subst hsz
  have hD := hD0.self (sz := s.heap.size)
  generalize hAe : va_A (mWs o r cI cJ S) s.heap.size = A at hD ⊢
  have hA : ∀ q : Nat, s.heap.size ≤ q → A q := fun q h => by rw [← hAe]; exact Or.inr h
  have hS : va_S A s.heap s.heap [] := va_S.rf
  have hw : mH dC dI o r cI cJ S s s.heap := ⟨hP, hK⟩
  have hm := mA_of hts hw
  have hl := lv_entry ([.ref o, .int x1, .int x2, .int x3, .int x4, .int x5]) (n := 7) (Nat.le_of_ble_eq_true rfl)
  rw [lg_entry_eq]
  generalize (lg_sl ([.ref o, .int x1, .int x2, .int x3, .int x4, .int x5]) ++ List.replicate (7 - (lg_sl ([.ref o, .int x1, .int x2, .int x3, .int x4, .int x5])).length) Slot.unset).toArray = ls at hl ⊢
  have hl : lv_has ls 7 [(0, .ref o), (1, .int x1), (2, .int x2), (3, .int x3), (4, .int x4), (5, .int x5)] := hl
  have hf : f_X7_act S x1 x2 x3 x4 x5 = (f_X7_act_9 (f_X7_bad S x1 x3) x2 S x1 x4 x5 x3) := rfl
  refine lv_aload_n hx hb dX7_act_0 rfl (lv_at hl 0 rfl) ?_
  refine lv_iload_n hx hb dX7_act_1 rfl (lv_at hl 1 rfl) ?_
  refine lv_iload_n hx hb dX7_act_2 rfl (lv_at hl 3 rfl) ?_
  refine vp_callSi (va_Run.run (va_runV (As := [.int x1, .int x3]) (rest := []) ⟨hx, hb, hml, hown, hts⟩ (c_X7_bad l dC dI o r cI cJ S x1 x3 hI) (cwV 2 hts (gV iX7_bad (zin__r6 (.methodLink RX7 142 yX7_bad) (List.mem_of_getElem? (i := 15) rfl))) rfl rfl rfl (by decide +kernel) ⟨Nat.le_of_ble_eq_true rfl, Nat.le_of_ble_eq_true rfl⟩) ⟨fun a U g mk q => ⟨q.1, mW_bl q.2⟩, (mW_rv hw), fun U hU hW => ⟨rfl, mW_mv hw hU hW⟩⟩ rfl rfl hl.1 rfl (lv_room (Nat.le_of_ble_eq_true rfl)) dX7_act_3 ⟨Nat.zero_le _, Nat.zero_le _⟩)) (fun r_3 hr_3 => ?_)
  subst hr_3
  refine lv_topi (fun v6_1 e_v6_1 => ?_)
  have hf : f_X7_act S x1 x2 x3 x4 x5 = (f_X7_act_9 v6_1 x2 S x1 x4 x5 x3) := hf.trans (congrArg (fun z => (f_X7_act_9 z x2 S x1 x4 x5 x3)) e_v6_1.symm)
  refine lv_istore (lv' := [(6, .int v6_1), (0, .ref o), (1, .int x1), (2, .int x2), (3, .int x3), (4, .int x4), (5, .int x5)]) hx hb dX7_act_6 hl (by decide) rfl (fun ls hl => ?_)
  refine lv_iload hx hb dX7_act_8 (lv_at hl 0 rfl) ?_
  refine lv_if_ne (tgt := 46) hx hb dX7_act_10 (by decide) (fun c_10 => ?_) (fun c_10 => ?_)
  · have hf : f_X7_act S x1 x2 x3 x4 x5 = (f_X7_act_3 v6_1 S x1 x5 x2 x3 x4) := hf.trans (if_neg c_10)
    refine lv_iload hx hb dX7_act_46 (lv_at hl 0 rfl) ?_
    refine lv_if_le (tgt := 58) hx hb dX7_act_48 (by decide) (fun c_48 => ?_) (fun c_48 => ?_)
    · have hf : f_X7_act S x1 x2 x3 x4 x5 = (f_X7_act_2 (mset_s S (0 : Int32)) x1 x5 x2 x3 x4) := hf.trans (if_pos c_48)
      have hL : mPl S x1 x3 := why_ok hI e_v6_1 c_48
      have hL4 : mPl S x1 x4 := (by first | exact out_ok hI (mPl.row hL) c_30 | exact absurd (why_zero hI e_v6_1 c_48) c_10)
      have hL5 : mPl S x1 x5 := (by first | exact out_ok hI (mPl.row hL) c_40 | exact absurd (why_zero hI e_v6_1 c_48) c_10)
      refine lv_aload_n hx hb dX7_act_58 rfl (lv_at hl 1 rfl) ?_
      refine lv_iconst (v := 0) hx hb dX7_act_59 (by decide) ?_
      refine va_put (D := (dC, dI)) (ci := 5) (v := .int (0 : Int32)) (ty := .int) (C := RX7) (T := TX7) (N := 18) hx hb hts zin_X7 tyX7 tyX7_ok nmX7 hown hK hP hD hS 0 rfl rfl 17 (by decide) (hts _ (zin__r4 (.fieldLink RX7 75 "ReckonBenchModel" "status" "I") (List.mem_of_getElem? (i := 13) rfl))) (fun _ h9 => h9) rfl (by decide +kernel) rfl rfl (Nat.le_of_ble_eq_true rfl) dX7_act_60 (fun H locs hP hD hS => ?_)
      obtain ⟨S_2, e_S_2⟩ : ∃ z : MSt, z = (mset_s S (0 : Int32)) := ⟨_, rfl⟩
      have hP : va_P (dC, dI) vwCl (mWs o r cI cJ S_2) H := by rw [e_S_2]; exact hP
      have hD : va_D A (mWs o r cI cJ S_2) := by rw [e_S_2]; exact hD
      have hw : mH dC dI o r cI cJ S_2 s H := ⟨hP, hK⟩
      have hm := mA_of hts hw
      have hI : mInv S_2 := by rw [e_S_2]; exact hI
      have hL : mPl S_2 x1 x3 := by rw [e_S_2]; exact hL
      have hL4 : mPl S_2 x1 x4 := by rw [e_S_2]; exact hL4
      have hL5 : mPl S_2 x1 x5 := by rw [e_S_2]; exact hL5
      have hf : f_X7_act S x1 x2 x3 x4 x5 = (f_X7_act_2 S_2 x1 x5 x2 x3 x4) := hf.trans (congrArg (fun z => (f_X7_act_2 z x1 x5 x2 x3 x4)) e_S_2.symm)
      refine lv_aload_n hx hb dX7_act_63 rfl (lv_at hl 1 rfl) ?_
      refine lv_iload_n hx hb dX7_act_64 rfl (lv_at hl 2 rfl) ?_
      refine lv_iload hx hb dX7_act_65 (lv_at hl 6 rfl) ?_
      refine lv_aload_n hx hb dX7_act_67 rfl (lv_at hl 1 rfl) ?_
      refine lv_aload_n hx hb dX7_act_68 rfl (lv_at hl 1 rfl) ?_
      refine va_get (D := (dC, dI)) (ci := 5) (v := .ref (r 8)) (C := RX7) (T := TX7) (N := 18) hx hb hts zin_X7 hown hK hP 0 rfl rfl 8 (by decide) (hts _ (zin__r3 (.fieldLink RX7 51 "ReckonBenchModel" "kinds" "[I") (List.mem_of_getElem? (i := 2) rfl))) (fun _ h9 => h9) rfl dX7_act_69 ?_
      refine lv_iload_n hx hb dX7_act_72 rfl (lv_at hl 2 rfl) ?_
      refine va_iald (f := fun j => nI (mk S_2 j)) hx hb hK hP 9 0 rfl rfl (mRow.in2 hI (mPl.row hL)) dX7_act_73 ?_
      refine lv_iload_n hx hb dX7_act_74 rfl (lv_at hl 3 rfl) ?_
      refine lv_aload_n hx hb dX7_act_75 rfl (lv_at hl 1 rfl) ?_
      refine lv_iload_n hx hb dX7_act_76 rfl (lv_at hl 2 rfl) ?_
      refine lv_iload_n hx hb dX7_act_77 rfl (lv_at hl 4 rfl) ?_
      refine vp_callSl (va_Run.run (va_runV (As := [.int x1, .int x3]) (rest := [.int x2, .int (nI (mk S_2 x1.toNatClampNeg)), .ref o, .int x5, .int x1, .ref o]) ⟨hx, hb, hml, hown, hts⟩ (c_X7_at l dC dI o r cI cJ S_2 x1 x3 (mRow.in0 hI (mPl.row hL)) (mPl.at hI hL)) (cwV 2 hts (gV iX7_at (zin__r11 (.methodLink RX7 155 yX7_at) (List.mem_of_getElem? (i := 2) rfl))) rfl rfl rfl (by decide +kernel) ⟨Nat.le_of_ble_eq_true rfl, Nat.le_of_ble_eq_true rfl⟩) ⟨fun a U g mk q => ⟨q.1, mW_bl q.2⟩, (mW_rv hw), fun U hU hW => ⟨rfl, mW_mv hw hU hW⟩⟩ rfl rfl hl.1 rfl (lv_room (Nat.le_of_ble_eq_true rfl)) dX7_act_78 ⟨Nat.zero_le _, Nat.zero_le _⟩)) (fun r_78 hr_78 => ?_)
      subst hr_78
      refine lv_aload_n hx hb dX7_act_81 rfl (lv_at hl 1 rfl) ?_
      refine lv_iload_n hx hb dX7_act_82 rfl (lv_at hl 2 rfl) ?_
      refine lv_iload hx hb dX7_act_83 (lv_at hl 5 rfl) ?_
      refine vp_callSl (va_Run.run (va_runV (As := [.int x1, .int x4]) (rest := [.long (f_X7_at S_2 x1 x3), .int x2, .int (nI (mk S_2 x1.toNatClampNeg)), .ref o, .int x5, .int x1, .ref o]) ⟨hx, hb, hml, hown, hts⟩ (c_X7_at l dC dI o r cI cJ S_2 x1 x4 (mRow.in0 hI (mPl.row hL4)) (mPl.at hI hL4)) (cwV 2 hts (gV iX7_at (zin__r11 (.methodLink RX7 155 yX7_at) (List.mem_of_getElem? (i := 2) rfl))) rfl rfl rfl (by decide +kernel) ⟨Nat.le_of_ble_eq_true rfl, Nat.le_of_ble_eq_true rfl⟩) ⟨fun a U g mk q => ⟨q.1, mW_bl q.2⟩, (mW_rv hw), fun U hU hW => ⟨rfl, mW_mv hw hU hW⟩⟩ rfl rfl hl.1 rfl (lv_room (Nat.le_of_ble_eq_true rfl)) dX7_act_85 ⟨Nat.zero_le _, Nat.zero_le _⟩)) (fun r_85 hr_85 => ?_)
      subst hr_85
      refine vp_callSl (va_Run.run (va_runV (As := [.int (nI (mk S_2 x1.toNatClampNeg)), .int x2, .long (f_X7_at S_2 x1 x3), .long (f_X7_at S_2 x1 x4)]) (rest := [.int x5, .int x1, .ref o]) ⟨hx, hb, hml, hown, hts⟩ (c_X7_result l o r (mk S_2 x1.toNatClampNeg) (mRow.k hI (mPl.row hL)) x2 (f_X7_at S_2 x1 x3) (f_X7_at S_2 x1 x4) (mPl.cln hI hL) (mPl.cln hI hL4)) (cwV 4 hts (gV iX7_result (zin__r20 (.methodLink RX7 183 yX7_result) (List.mem_of_getElem? (i := 10) rfl))) rfl rfl rfl (by decide +kernel) ⟨Nat.le_of_ble_eq_true rfl, Nat.le_of_ble_eq_true rfl⟩) ⟨fun a U g mk q => ⟨q.1, mU_bl q.2⟩, (mW_rv hw), fun U hU hW => ⟨rfl, mU_mvH hm hU hW⟩⟩ rfl rfl hl.1 rfl (lv_room (Nat.le_of_ble_eq_true rfl)) dX7_act_88 ⟨Nat.zero_le _, Nat.zero_le _⟩)) (fun r_88 hr_88 => ?_)
      subst hr_88
      have hFc := va_free (wc := mWs o r cI cJ S_2) hD hS hA [0, 1, 2, 3, 4, 5, 6, 7, 8, 9, 10, 11, 12, 13, 14, 15, 16] rfl
      refine va_calli (va_runV (As := [.int x1, .int x5, .long (f_X7_result (mk S_2 x1.toNatClampNeg) x2 (f_X7_at S_2 x1 x3) (f_X7_at S_2 x1 x4))]) (rest := []) ⟨hx, hb, hml, hown, hts⟩ (c_X7_keep l dC dI o r cI cJ H.size S_2 x1 x5 (f_X7_result (mk S_2 x1.toNatClampNeg) x2 (f_X7_at S_2 x1 x3) (f_X7_at S_2 x1 x4)) hI hL5) (cwV 3 hts (gV iX7_keep (zin__r7 (.methodLink RX7 149 yX7_keep) (List.mem_of_getElem? (i := 9) rfl))) rfl rfl rfl (by decide +kernel) ⟨Nat.le_of_ble_eq_true rfl, Nat.le_of_ble_eq_true rfl⟩) ⟨fun a U g mk q => ⟨q.1, mB_bl q.2⟩, mW_rv hw, fun U hU hW => ⟨rfl, mB_mv hw hD hU hW⟩⟩ rfl rfl hl.1 rfl (lv_room (Nat.le_of_ble_eq_true rfl)) dX7_act_91 ⟨Nat.zero_le _, Nat.zero_le _⟩) hS (fun q _ h => hFc q h) hFc (fun r_91 S_3 t H1 locs ht hvm hw1 hB hz1 hk1 hS => ?_)
      obtain ⟨hP, -, hD1⟩ := hB
      rw [ht] at hP
      have hD := hD1.weaken (fun k q _ h => hFc q.1 h)
      generalize H1 = H at hP hS ⊢
      have hw : mH dC dI o r cI cJ S_3 s H := ⟨hP, hK⟩
      have hm := mA_of hts hw
      have hf : f_X7_act S x1 x2 x3 x4 x5 = (r_91, S_3) := hf.trans (congrArg (fun z => (f_X7_act_1 z)) hw1.symm)
      exact W.iret hx hb hr (fun t ht hW => ⟨⟨_, S_3, rfl, hf.symm, by rw [ht]; exact hP, va_K.moved hW.alike hK, hD⟩, hS.F ht⟩) hS.2.2 dX7_act_94
    · have hf : f_X7_act S x1 x2 x3 x4 x5 = (f_X7_act_1 (f_X7_no S v6_1)) := hf.trans (if_neg c_48)
      refine lv_aload_n hx hb dX7_act_51 rfl (lv_at hl 1 rfl) ?_
      refine lv_iload hx hb dX7_act_52 (lv_at hl 0 rfl) ?_
      have hFc := va_free (wc := mWs o r cI cJ S) hD hS hA [0, 1, 2, 3, 4, 5, 6, 7, 8, 9, 10, 11, 12, 13, 14, 15, 16] rfl
      refine va_calli (va_runV (As := [.int v6_1]) (rest := []) ⟨hx, hb, hml, hown, hts⟩ (c_X7_no l dC dI o r cI cJ s.heap.size S v6_1) (cwV 1 hts (gV iX7_no (zin__r4 (.methodLink RX7 139 yX7_no) (List.mem_of_getElem? (i := 14) rfl))) rfl rfl rfl (by decide +kernel) ⟨Nat.le_of_ble_eq_true rfl, Nat.le_of_ble_eq_true rfl⟩) ⟨fun a U g mk q => ⟨q.1, mB_bl q.2⟩, mW_rv hw, fun U hU hW => ⟨rfl, mB_mv hw hD hU hW⟩⟩ rfl rfl hl.1 rfl (lv_room (Nat.le_of_ble_eq_true rfl)) dX7_act_54 ⟨Nat.zero_le _, Nat.zero_le _⟩) hS (fun q _ h => hFc q h) hFc (fun r_54 S_4 t H1 locs ht hvm hw1 hB hz1 hk1 hS => ?_)
      obtain ⟨hP, -, hD1⟩ := hB
      rw [ht] at hP
      have hD := hD1.weaken (fun k q _ h => hFc q.1 h)
      generalize H1 = H at hP hS ⊢
      have hw : mH dC dI o r cI cJ S_4 s H := ⟨hP, hK⟩
      have hm := mA_of hts hw
      have hf : f_X7_act S x1 x2 x3 x4 x5 = (r_54, S_4) := hf.trans (congrArg (fun z => (f_X7_act_1 z)) hw1.symm)
      exact W.iret hx hb hr (fun t ht hW => ⟨⟨_, S_4, rfl, hf.symm, by rw [ht]; exact hP, va_K.moved hW.alike hK, hD⟩, hS.F ht⟩) hS.2.2 dX7_act_57
  · have hf : f_X7_act S x1 x2 x3 x4 x5 = (f_X7_act_8 x2 S x1 x4 x5 v6_1 x3) := hf.trans (if_pos c_10)
    have hL0 : mPl S x1 x3 := why_ok0 hI e_v6_1 c_10
    refine lv_iload_n hx hb dX7_act_13 rfl (lv_at hl 3 rfl) ?_
    refine W_cut (α := Unit) (pcJ := 43) (nL := 7) (fun v => f_X7_act S x1 x2 x3 x4 x5 = (f_X7_act_4 S)) (fun v => []) (fun v => [(0, .ref o), (1, .int x1), (2, .int x2), (3, .int x3), (4, .int x4), (5, .int x5)]) (fun v ls hf hl => ?_) (fun K_43 => ?_)
    · have hf : f_X7_act S x1 x2 x3 x4 x5 = (f_X7_act_1 (f_X7_no S (2 : Int32))) := hf
      have hl : lv_has ls 7 [(0, .ref o), (1, .int x1), (2, .int x2), (3, .int x3), (4, .int x4), (5, .int x5)] := hl
      refine lv_iconst (v := 2) hx hb dX7_act_43 (by decide) ?_
      refine lv_istore (lv' := [(6, .int (2 : Int32)), (0, .ref o), (1, .int x1), (2, .int x2), (3, .int x3), (4, .int x4), (5, .int x5)]) hx hb dX7_act_44 hl (by decide) rfl (fun ls hl => ?_)
      refine lv_iload hx hb dX7_act_46 (lv_at hl 0 rfl) ?_
      refine lv_if_le (tgt := 58) hx hb dX7_act_48 (by decide) (fun c_48 => ?_) (fun c_48 => ?_)
      · exact absurd c_48 (by decide)
      · refine lv_aload_n hx hb dX7_act_51 rfl (lv_at hl 1 rfl) ?_
        refine lv_iload hx hb dX7_act_52 (lv_at hl 0 rfl) ?_
        have hFc := va_free (wc := mWs o r cI cJ S) hD hS hA [0, 1, 2, 3, 4, 5, 6, 7, 8, 9, 10, 11, 12, 13, 14, 15, 16] rfl
        refine va_calli (va_runV (As := [.int (2 : Int32)]) (rest := []) ⟨hx, hb, hml, hown, hts⟩ (c_X7_no l dC dI o r cI cJ s.heap.size S (2 : Int32)) (cwV 1 hts (gV iX7_no (zin__r4 (.methodLink RX7 139 yX7_no) (List.mem_of_getElem? (i := 14) rfl))) rfl rfl rfl (by decide +kernel) ⟨Nat.le_of_ble_eq_true rfl, Nat.le_of_ble_eq_true rfl⟩) ⟨fun a U g mk q => ⟨q.1, mB_bl q.2⟩, mW_rv hw, fun U hU hW => ⟨rfl, mB_mv hw hD hU hW⟩⟩ rfl rfl hl.1 rfl (lv_room (Nat.le_of_ble_eq_true rfl)) dX7_act_54 ⟨Nat.zero_le _, Nat.zero_le _⟩) hS (fun q _ h => hFc q h) hFc (fun r_54 S_5 t H1 locs ht hvm hw1 hB hz1 hk1 hS => ?_)
        obtain ⟨hP, -, hD1⟩ := hB
        rw [ht] at hP
        have hD := hD1.weaken (fun k q _ h => hFc q.1 h)
        generalize H1 = H at hP hS ⊢
        have hw : mH dC dI o r cI cJ S_5 s H := ⟨hP, hK⟩
        have hm := mA_of hts hw
        have hf : f_X7_act S x1 x2 x3 x4 x5 = (r_54, S_5) := hf.trans (congrArg (fun z => (f_X7_act_1 z)) hw1.symm)
        exact W.iret hx hb hr (fun t ht hW => ⟨⟨_, S_5, rfl, hf.symm, by rw [ht]; exact hP, va_K.moved hW.alike hK, hD⟩, hS.F ht⟩) hS.2.2 dX7_act_57
    refine lv_if_lt (tgt := 43) hx hb dX7_act_14 (by decide) (fun c_14 => ?_) (fun c_14 => ?_)
    · have hf : f_X7_act S x1 x2 x3 x4 x5 = (f_X7_act_4 S) := hf.trans (if_pos c_14)
      exact K_43 () ls hf (lv_sub hl [1, 2, 3, 4, 5, 6] rfl)
    · have hf : f_X7_act S x1 x2 x3 x4 x5 = (f_X7_act_7 x2 S x1 x4 x5 v6_1 x3) := hf.trans (if_neg c_14)
      refine lv_iload_n hx hb dX7_act_17 rfl (lv_at hl 3 rfl) ?_
      refine lv_bipush (v := 13) hx hb dX7_act_18 (by decide) ?_
      refine lv_icmp_gt (tgt := 43) hx hb dX7_act_20 (by decide) (fun c_20 => ?_) (fun c_20 => ?_)
      · have hf : f_X7_act S x1 x2 x3 x4 x5 = (f_X7_act_4 S) := hf.trans (if_pos c_20)
        exact K_43 () ls hf (lv_sub hl [1, 2, 3, 4, 5, 6] rfl)
      · have hf : f_X7_act S x1 x2 x3 x4 x5 = (f_X7_act_6 S x1 x4 x5 v6_1 x2 x3) := hf.trans (if_neg c_20)
        refine lv_aload_n hx hb dX7_act_23 rfl (lv_at hl 1 rfl) ?_
        refine lv_iload_n hx hb dX7_act_24 rfl (lv_at hl 2 rfl) ?_
        refine lv_iload hx hb dX7_act_25 (lv_at hl 5 rfl) ?_
        refine vp_callSi (va_Run.run (va_runV (As := [.int x1, .int x4]) (rest := []) ⟨hx, hb, hml, hown, hts⟩ (c_X7_outside l dC dI o r cI cJ S x1 x4 hI (mPl.row hL0)) (cwV 2 hts (gV iX7_outside (zin__r14 (.methodLink RX7 163 yX7_outside) (List.mem_of_getElem? (i := 7) rfl))) rfl rfl rfl (by decide +kernel) ⟨Nat.le_of_ble_eq_true rfl, Nat.le_of_ble_eq_true rfl⟩) ⟨fun a U g mk q => ⟨q.1, mW_bl q.2⟩, (mW_rv hw), fun U hU hW => ⟨rfl, mW_mv hw hU hW⟩⟩ rfl rfl hl.1 rfl (lv_room (Nat.le_of_ble_eq_true rfl)) dX7_act_27 ⟨Nat.zero_le _, Nat.zero_le _⟩)) (fun r_27 hr_27 => ?_)
        subst hr_27
        refine lv_if_ne (tgt := 43) hx hb dX7_act_30 (by decide) (fun c_30 => ?_) (fun c_30 => ?_)
        · have hf : f_X7_act S x1 x2 x3 x4 x5 = (f_X7_act_4 S) := hf.trans (if_neg c_30)
          exact K_43 () ls hf (lv_sub hl [1, 2, 3, 4, 5, 6] rfl)
        · have hf : f_X7_act S x1 x2 x3 x4 x5 = (f_X7_act_5 S x1 x5 v6_1 x2 x3 x4) := hf.trans (if_pos c_30)
          refine lv_aload_n hx hb dX7_act_33 rfl (lv_at hl 1 rfl) ?_
          refine lv_iload_n hx hb dX7_act_34 rfl (lv_at hl 2 rfl) ?_
          refine lv_iload hx hb dX7_act_35 (lv_at hl 6 rfl) ?_
          refine vp_callSi (va_Run.run (va_runV (As := [.int x1, .int x5]) (rest := []) ⟨hx, hb, hml, hown, hts⟩ (c_X7_outside l dC dI o r cI cJ S x1 x5 hI (mPl.row hL0)) (cwV 2 hts (gV iX7_outside (zin__r14 (.methodLink RX7 163 yX7_outside) (List.mem_of_getElem? (i := 7) rfl))) rfl rfl rfl (by decide +kernel) ⟨Nat.le_of_ble_eq_true rfl, Nat.le_of_ble_eq_true rfl⟩) ⟨fun a U g mk q => ⟨q.1, mW_bl q.2⟩, (mW_rv hw), fun U hU hW => ⟨rfl, mW_mv hw hU hW⟩⟩ rfl rfl hl.1 rfl (lv_room (Nat.le_of_ble_eq_true rfl)) dX7_act_37 ⟨Nat.zero_le _, Nat.zero_le _⟩)) (fun r_37 hr_37 => ?_)
          subst hr_37
          refine lv_if_eq (tgt := 46) hx hb dX7_act_40 (by decide) (fun c_40 => ?_) (fun c_40 => ?_)
          · have hf : f_X7_act S x1 x2 x3 x4 x5 = (f_X7_act_3 v6_1 S x1 x5 x2 x3 x4) := hf.trans (if_pos c_40)
            refine lv_iload hx hb dX7_act_46 (lv_at hl 0 rfl) ?_
            refine lv_if_le (tgt := 58) hx hb dX7_act_48 (by decide) (fun c_48 => ?_) (fun c_48 => ?_)
            · have hf : f_X7_act S x1 x2 x3 x4 x5 = (f_X7_act_2 (mset_s S (0 : Int32)) x1 x5 x2 x3 x4) := hf.trans (if_pos c_48)
              have hL : mPl S x1 x3 := why_ok hI e_v6_1 c_48
              have hL4 : mPl S x1 x4 := (by first | exact out_ok hI (mPl.row hL) c_30 | exact absurd (why_zero hI e_v6_1 c_48) c_10)
              have hL5 : mPl S x1 x5 := (by first | exact out_ok hI (mPl.row hL) c_40 | exact absurd (why_zero hI e_v6_1 c_48) c_10)
              refine lv_aload_n hx hb dX7_act_58 rfl (lv_at hl 1 rfl) ?_
              refine lv_iconst (v := 0) hx hb dX7_act_59 (by decide) ?_
              refine va_put (D := (dC, dI)) (ci := 5) (v := .int (0 : Int32)) (ty := .int) (C := RX7) (T := TX7) (N := 18) hx hb hts zin_X7 tyX7 tyX7_ok nmX7 hown hK hP hD hS 0 rfl rfl 17 (by decide) (hts _ (zin__r4 (.fieldLink RX7 75 "ReckonBenchModel" "status" "I") (List.mem_of_getElem? (i := 13) rfl))) (fun _ h9 => h9) rfl (by decide +kernel) rfl rfl (Nat.le_of_ble_eq_true rfl) dX7_act_60 (fun H locs hP hD hS => ?_)
              obtain ⟨S_6, e_S_6⟩ : ∃ z : MSt, z = (mset_s S (0 : Int32)) := ⟨_, rfl⟩
              have hP : va_P (dC, dI) vwCl (mWs o r cI cJ S_6) H := by rw [e_S_6]; exact hP
              have hD : va_D A (mWs o r cI cJ S_6) := by rw [e_S_6]; exact hD
              have hw : mH dC dI o r cI cJ S_6 s H := ⟨hP, hK⟩
              have hm := mA_of hts hw
              have hI : mInv S_6 := by rw [e_S_6]; exact hI
              have hL0 : mPl S_6 x1 x3 := by rw [e_S_6]; exact hL0
              have hL : mPl S_6 x1 x3 := by rw [e_S_6]; exact hL
              have hL4 : mPl S_6 x1 x4 := by rw [e_S_6]; exact hL4
              have hL5 : mPl S_6 x1 x5 := by rw [e_S_6]; exact hL5
              have hf : f_X7_act S x1 x2 x3 x4 x5 = (f_X7_act_2 S_6 x1 x5 x2 x3 x4) := hf.trans (congrArg (fun z => (f_X7_act_2 z x1 x5 x2 x3 x4)) e_S_6.symm)
              refine lv_aload_n hx hb dX7_act_63 rfl (lv_at hl 1 rfl) ?_
              refine lv_iload_n hx hb dX7_act_64 rfl (lv_at hl 2 rfl) ?_
              refine lv_iload hx hb dX7_act_65 (lv_at hl 6 rfl) ?_
              refine lv_aload_n hx hb dX7_act_67 rfl (lv_at hl 1 rfl) ?_
              refine lv_aload_n hx hb dX7_act_68 rfl (lv_at hl 1 rfl) ?_
              refine va_get (D := (dC, dI)) (ci := 5) (v := .ref (r 8)) (C := RX7) (T := TX7) (N := 18) hx hb hts zin_X7 hown hK hP 0 rfl rfl 8 (by decide) (hts _ (zin__r3 (.fieldLink RX7 51 "ReckonBenchModel" "kinds" "[I") (List.mem_of_getElem? (i := 2) rfl))) (fun _ h9 => h9) rfl dX7_act_69 ?_
              refine lv_iload_n hx hb dX7_act_72 rfl (lv_at hl 2 rfl) ?_
              refine va_iald (f := fun j => nI (mk S_6 j)) hx hb hK hP 9 0 rfl rfl (mRow.in2 hI (mPl.row hL)) dX7_act_73 ?_
              refine lv_iload_n hx hb dX7_act_74 rfl (lv_at hl 3 rfl) ?_
              refine lv_aload_n hx hb dX7_act_75 rfl (lv_at hl 1 rfl) ?_
              refine lv_iload_n hx hb dX7_act_76 rfl (lv_at hl 2 rfl) ?_
              refine lv_iload_n hx hb dX7_act_77 rfl (lv_at hl 4 rfl) ?_
              refine vp_callSl (va_Run.run (va_runV (As := [.int x1, .int x3]) (rest := [.int x2, .int (nI (mk S_6 x1.toNatClampNeg)), .ref o, .int x5, .int x1, .ref o]) ⟨hx, hb, hml, hown, hts⟩ (c_X7_at l dC dI o r cI cJ S_6 x1 x3 (mRow.in0 hI (mPl.row hL)) (mPl.at hI hL)) (cwV 2 hts (gV iX7_at (zin__r11 (.methodLink RX7 155 yX7_at) (List.mem_of_getElem? (i := 2) rfl))) rfl rfl rfl (by decide +kernel) ⟨Nat.le_of_ble_eq_true rfl, Nat.le_of_ble_eq_true rfl⟩) ⟨fun a U g mk q => ⟨q.1, mW_bl q.2⟩, (mW_rv hw), fun U hU hW => ⟨rfl, mW_mv hw hU hW⟩⟩ rfl rfl hl.1 rfl (lv_room (Nat.le_of_ble_eq_true rfl)) dX7_act_78 ⟨Nat.zero_le _, Nat.zero_le _⟩)) (fun r_78 hr_78 => ?_)
              subst hr_78
              refine lv_aload_n hx hb dX7_act_81 rfl (lv_at hl 1 rfl) ?_
              refine lv_iload_n hx hb dX7_act_82 rfl (lv_at hl 2 rfl) ?_
              refine lv_iload hx hb dX7_act_83 (lv_at hl 5 rfl) ?_
              refine vp_callSl (va_Run.run (va_runV (As := [.int x1, .int x4]) (rest := [.long (f_X7_at S_6 x1 x3), .int x2, .int (nI (mk S_6 x1.toNatClampNeg)), .ref o, .int x5, .int x1, .ref o]) ⟨hx, hb, hml, hown, hts⟩ (c_X7_at l dC dI o r cI cJ S_6 x1 x4 (mRow.in0 hI (mPl.row hL4)) (mPl.at hI hL4)) (cwV 2 hts (gV iX7_at (zin__r11 (.methodLink RX7 155 yX7_at) (List.mem_of_getElem? (i := 2) rfl))) rfl rfl rfl (by decide +kernel) ⟨Nat.le_of_ble_eq_true rfl, Nat.le_of_ble_eq_true rfl⟩) ⟨fun a U g mk q => ⟨q.1, mW_bl q.2⟩, (mW_rv hw), fun U hU hW => ⟨rfl, mW_mv hw hU hW⟩⟩ rfl rfl hl.1 rfl (lv_room (Nat.le_of_ble_eq_true rfl)) dX7_act_85 ⟨Nat.zero_le _, Nat.zero_le _⟩)) (fun r_85 hr_85 => ?_)
              subst hr_85
              refine vp_callSl (va_Run.run (va_runV (As := [.int (nI (mk S_6 x1.toNatClampNeg)), .int x2, .long (f_X7_at S_6 x1 x3), .long (f_X7_at S_6 x1 x4)]) (rest := [.int x5, .int x1, .ref o]) ⟨hx, hb, hml, hown, hts⟩ (c_X7_result l o r (mk S_6 x1.toNatClampNeg) (mRow.k hI (mPl.row hL)) x2 (f_X7_at S_6 x1 x3) (f_X7_at S_6 x1 x4) (mPl.cln hI hL) (mPl.cln hI hL4)) (cwV 4 hts (gV iX7_result (zin__r20 (.methodLink RX7 183 yX7_result) (List.mem_of_getElem? (i := 10) rfl))) rfl rfl rfl (by decide +kernel) ⟨Nat.le_of_ble_eq_true rfl, Nat.le_of_ble_eq_true rfl⟩) ⟨fun a U g mk q => ⟨q.1, mU_bl q.2⟩, (mW_rv hw), fun U hU hW => ⟨rfl, mU_mvH hm hU hW⟩⟩ rfl rfl hl.1 rfl (lv_room (Nat.le_of_ble_eq_true rfl)) dX7_act_88 ⟨Nat.zero_le _, Nat.zero_le _⟩)) (fun r_88 hr_88 => ?_)
              subst hr_88
              have hFc := va_free (wc := mWs o r cI cJ S_6) hD hS hA [0, 1, 2, 3, 4, 5, 6, 7, 8, 9, 10, 11, 12, 13, 14, 15, 16] rfl
              refine va_calli (va_runV (As := [.int x1, .int x5, .long (f_X7_result (mk S_6 x1.toNatClampNeg) x2 (f_X7_at S_6 x1 x3) (f_X7_at S_6 x1 x4))]) (rest := []) ⟨hx, hb, hml, hown, hts⟩ (c_X7_keep l dC dI o r cI cJ H.size S_6 x1 x5 (f_X7_result (mk S_6 x1.toNatClampNeg) x2 (f_X7_at S_6 x1 x3) (f_X7_at S_6 x1 x4)) hI hL5) (cwV 3 hts (gV iX7_keep (zin__r7 (.methodLink RX7 149 yX7_keep) (List.mem_of_getElem? (i := 9) rfl))) rfl rfl rfl (by decide +kernel) ⟨Nat.le_of_ble_eq_true rfl, Nat.le_of_ble_eq_true rfl⟩) ⟨fun a U g mk q => ⟨q.1, mB_bl q.2⟩, mW_rv hw, fun U hU hW => ⟨rfl, mB_mv hw hD hU hW⟩⟩ rfl rfl hl.1 rfl (lv_room (Nat.le_of_ble_eq_true rfl)) dX7_act_91 ⟨Nat.zero_le _, Nat.zero_le _⟩) hS (fun q _ h => hFc q h) hFc (fun r_91 S_7 t H1 locs ht hvm hw1 hB hz1 hk1 hS => ?_)
              obtain ⟨hP, -, hD1⟩ := hB
              rw [ht] at hP
              have hD := hD1.weaken (fun k q _ h => hFc q.1 h)
              generalize H1 = H at hP hS ⊢
              have hw : mH dC dI o r cI cJ S_7 s H := ⟨hP, hK⟩
              have hm := mA_of hts hw
              have hf : f_X7_act S x1 x2 x3 x4 x5 = (r_91, S_7) := hf.trans (congrArg (fun z => (f_X7_act_1 z)) hw1.symm)
              exact W.iret hx hb hr (fun t ht hW => ⟨⟨_, S_7, rfl, hf.symm, by rw [ht]; exact hP, va_K.moved hW.alike hK, hD⟩, hS.F ht⟩) hS.2.2 dX7_act_94
            · have hf : f_X7_act S x1 x2 x3 x4 x5 = (f_X7_act_1 (f_X7_no S v6_1)) := hf.trans (if_neg c_48)
              refine lv_aload_n hx hb dX7_act_51 rfl (lv_at hl 1 rfl) ?_
              refine lv_iload hx hb dX7_act_52 (lv_at hl 0 rfl) ?_
              have hFc := va_free (wc := mWs o r cI cJ S) hD hS hA [0, 1, 2, 3, 4, 5, 6, 7, 8, 9, 10, 11, 12, 13, 14, 15, 16] rfl
              refine va_calli (va_runV (As := [.int v6_1]) (rest := []) ⟨hx, hb, hml, hown, hts⟩ (c_X7_no l dC dI o r cI cJ s.heap.size S v6_1) (cwV 1 hts (gV iX7_no (zin__r4 (.methodLink RX7 139 yX7_no) (List.mem_of_getElem? (i := 14) rfl))) rfl rfl rfl (by decide +kernel) ⟨Nat.le_of_ble_eq_true rfl, Nat.le_of_ble_eq_true rfl⟩) ⟨fun a U g mk q => ⟨q.1, mB_bl q.2⟩, mW_rv hw, fun U hU hW => ⟨rfl, mB_mv hw hD hU hW⟩⟩ rfl rfl hl.1 rfl (lv_room (Nat.le_of_ble_eq_true rfl)) dX7_act_54 ⟨Nat.zero_le _, Nat.zero_le _⟩) hS (fun q _ h => hFc q h) hFc (fun r_54 S_8 t H1 locs ht hvm hw1 hB hz1 hk1 hS => ?_)
              obtain ⟨hP, -, hD1⟩ := hB
              rw [ht] at hP
              have hD := hD1.weaken (fun k q _ h => hFc q.1 h)
              generalize H1 = H at hP hS ⊢
              have hw : mH dC dI o r cI cJ S_8 s H := ⟨hP, hK⟩
              have hm := mA_of hts hw
              have hf : f_X7_act S x1 x2 x3 x4 x5 = (r_54, S_8) := hf.trans (congrArg (fun z => (f_X7_act_1 z)) hw1.symm)
              exact W.iret hx hb hr (fun t ht hW => ⟨⟨_, S_8, rfl, hf.symm, by rw [ht]; exact hP, va_K.moved hW.alike hK, hD⟩, hS.F ht⟩) hS.2.2 dX7_act_57
          · have hf : f_X7_act S x1 x2 x3 x4 x5 = (f_X7_act_4 S) := hf.trans (if_neg c_40)
            exact K_43 () ls hf (lv_sub hl [1, 2, 3, 4, 5, 6] rfl)
def f_X7_step_1 (v10_7 : Int64) (v8_4 : Int64) (S_9 : MSt) : Int32 × MSt := if v10_7 ≤ v8_4 then ((((v8_4 - v10_7)).toInt32), S_9) else ((((v10_7 - v8_4)).toInt32), S_9)
def f_X7_step_2 (v10_7 : Int64) (v8_4 : Int64) (S_2 : MSt) (x1 : Int32) (x2 : Int32) (w_8 : Int32) : Int32 × MSt := (f_X7_step_1 v10_7 v8_4 (mset_b S_2 (vp_updL (mb S_2) ((nI (mf S_2 x1.toNatClampNeg)) + x2).toNatClampNeg (f_X7_ofRank (mk S_2 x1.toNatClampNeg) v10_7 w_8))))
def f_X7_step_3 (v10_7 : Int64) (v8_4 : Int64) (S_2 : MSt) (x1 : Int32) (x2 : Int32) : Int32 × MSt := if v10_7 ≤ v8_4 then (f_X7_step_2 v10_7 v8_4 S_2 x1 x2 (0 : Int32)) else (f_X7_step_2 v10_7 v8_4 S_2 x1 x2 (1 : Int32))
def f_X7_step_4 (v10_7 : Int64) (v8_4 : Int64) (S_2 : MSt) (x1 : Int32) (x2 : Int32) : Int32 × MSt := if v10_7 = v8_4 then ((0 : Int32), S_2) else (f_X7_step_3 v10_7 v8_4 S_2 x1 x2)
def f_X7_step_5 (S_2 : MSt) (x1 : Int32) (v10_6 : Int64) (v8_4 : Int64) (x2 : Int32) : Int32 × MSt := if (-(kinf (mk S_2 x1.toNatClampNeg))) ≤ v10_6 then (f_X7_step_4 v10_6 v8_4 S_2 x1 x2) else (f_X7_step_4 (-(kinf (mk S_2 x1.toNatClampNeg))) v8_4 S_2 x1 x2)
def f_X7_step_6 (v10_5 : Int64) (S_2 : MSt) (x1 : Int32) (v8_4 : Int64) (x2 : Int32) : Int32 × MSt := if v10_5 ≤ (kinf (mk S_2 x1.toNatClampNeg)) then (f_X7_step_5 S_2 x1 v10_5 v8_4 x2) else (f_X7_step_5 S_2 x1 (kinf (mk S_2 x1.toNatClampNeg)) v8_4 x2)
def f_X7_step_7 (v8_4 : Int64) (x3 : Int32) (S_2 : MSt) (x1 : Int32) (x2 : Int32) : Int32 × MSt := (f_X7_step_6 (v8_4 + ((x3).toInt64)) S_2 x1 v8_4 x2)
def f_X7_step_8 (S_2 : MSt) (x1 : Int32) (v6_3 : Int64) (x3 : Int32) (x2 : Int32) : Int32 × MSt := if (f_X7_none (mk S_2 x1.toNatClampNeg) v6_3) = 0 then (f_X7_step_7 (f_X7_rank (mk S_2 x1.toNatClampNeg) v6_3) x3 S_2 x1 x2) else ((0 : Int32), S_2)
def f_X7_step_9 (S_2 : MSt) (x1 : Int32) (x2 : Int32) (x3 : Int32) : Int32 × MSt := (f_X7_step_8 S_2 x1 (f_X7_at S_2 x1 x2) x3 x2)
def f_X7_step_10 (p9 : Int32 × MSt) : Int32 × MSt := (p9.1, p9.2)
def f_X7_step_11 (v4_1 : Int32) (S : MSt) (x1 : Int32) (x2 : Int32) (x3 : Int32) : Int32 × MSt := if v4_1 ≤ 0 then (f_X7_step_9 (mset_s S (0 : Int32)) x1 x2 x3) else (f_X7_step_10 (f_X7_no S v4_1))
def f_X7_step_12 (S : MSt) : Int32 × MSt := (f_X7_step_10 (f_X7_no S (2 : Int32)))
def f_X7_step_13 (x3 : Int32) (v4_1 : Int32) (S : MSt) (x1 : Int32) (x2 : Int32) : Int32 × MSt := if x3 ≤ (1000000000 : Int32) then (f_X7_step_11 v4_1 S x1 x2 x3) else (f_X7_step_12 S)
def f_X7_step_14 (x3 : Int32) (S : MSt) (v4_1 : Int32) (x1 : Int32) (x2 : Int32) : Int32 × MSt := if x3 < (-1000000000 : Int32) then (f_X7_step_12 S) else (f_X7_step_13 x3 v4_1 S x1 x2)
def f_X7_step_15 (v4_1 : Int32) (x3 : Int32) (S : MSt) (x1 : Int32) (x2 : Int32) : Int32 × MSt := if v4_1 = 0 then (f_X7_step_14 x3 S v4_1 x1 x2) else (f_X7_step_11 v4_1 S x1 x2 x3)
def f_X7_step (S : MSt) (x1 : Int32) (x2 : Int32) (x3 : Int32) : Int32 × MSt := (f_X7_step_15 (f_X7_bad S x1 x2) x3 S x1 x2)
def zX7_step : List Cond := .code yX7_step cX7_step 12 (some .int) :: zall
theorem iX7_step : MWv RX7 yX7_step (.code yX7_step cX7_step 12 (some .int)) := ⟨(zin__r22 (.instanceMethod yX7_step) (List.mem_of_getElem? (i := 22) rfl)), (zin__r22 (.selects RX7 yX7_step yX7_step) (List.mem_of_getElem? (i := 23) rfl)), (zin__r1 (.initialized RX7) (List.mem_of_getElem? (i := 5) rfl)), (zin__r23 (.code yX7_step cX7_step 12 (some .int)) (List.mem_of_getElem? (i := 0) rfl))⟩
set_option maxHeartbeats 4000000 in
set_option maxRecDepth 100000 in
theorem c_X7_step (l : Launch) (dC : Nat → ClassId) (dI : Nat → Nat → Nat) (o : Nat) (r : Nat → Nat) (cI cJ : ClassId) (sz : Nat) (S : MSt) (x1 : Int32) (x2 : Int32) (x3 : Int32) (hI : mInv S) : Met l yX7_step zX7_step ({ frames := 2, cells := 0, slots := 0, locals := 48 }) (va_Pc [.ref o, .int x1, .int x2, .int x3] (fun U => mB dC dI o r cI cJ sz S U)) (va_Qi (fun r9 S9 => (r9, S9) = f_X7_step S x1 x2 x3) (mE dC dI o r cI cJ (va_A (mWs o r cI cJ S) sz)) (va_A (mWs o r cI cJ S) sz)) 0 0 (va_A (mWs o r cI cJ S) sz) := by
  refine Met.ofW (cc := cX7_step) (maxL := 12) (ret := (some .int)) (by decide) rfl ?_
  intro p e s m args below meth c s₁ B hml hv
  obtain ⟨rfl, hsz, hP, hK, hD0⟩ := hv
  have hx := B.exec
  have hb := B.bytes
  have hr := B.returns
  have hts : ∀ w ∈ zall, w.before _ s = true := fun w h => atoms_spec (ws := zX7_step) B.pre w (List.mem_cons_of_mem _ h)
  have hown : s.vm.findClass RX7 = some m.cls := findClass_of_methodNamed B.named
  have hlocks := B.notSynchronized
  subst hsz
  have hD := hD0.self (sz := s.heap.size)
  generalize hAe : va_A (mWs o r cI cJ S) s.heap.size = A at hD ⊢
  have hA : ∀ q : Nat, s.heap.size ≤ q → A q := fun q h => by rw [← hAe]; exact Or.inr h
  have hS : va_S A s.heap s.heap [] := va_S.rf
  have hw : mH dC dI o r cI cJ S s s.heap := ⟨hP, hK⟩
  have hm := mA_of hts hw
  have hl := lv_entry ([.ref o, .int x1, .int x2, .int x3]) (n := 12) (Nat.le_of_ble_eq_true rfl)
  rw [lg_entry_eq]
  generalize (lg_sl ([.ref o, .int x1, .int x2, .int x3]) ++ List.replicate (12 - (lg_sl ([.ref o, .int x1, .int x2, .int x3])).length) Slot.unset).toArray = ls at hl ⊢
  have hl : lv_has ls 12 [(0, .ref o), (1, .int x1), (2, .int x2), (3, .int x3)] := hl
  have hf : f_X7_step S x1 x2 x3 = (f_X7_step_15 (f_X7_bad S x1 x2) x3 S x1 x2) := rfl
  refine lv_aload_n hx hb dX7_step_0 rfl (lv_at hl 0 rfl) ?_
  refine lv_iload_n hx hb dX7_step_1 rfl (lv_at hl 1 rfl) ?_
  refine lv_iload_n hx hb dX7_step_2 rfl (lv_at hl 2 rfl) ?_
  refine vp_callSi (va_Run.run (va_runV (As := [.int x1, .int x2]) (rest := []) ⟨hx, hb, hml, hown, hts⟩ (c_X7_bad l dC dI o r cI cJ S x1 x2 hI) (cwV 2 hts (gV iX7_bad (zin__r6 (.methodLink RX7 142 yX7_bad) (List.mem_of_getElem? (i := 15) rfl))) rfl rfl rfl (by decide +kernel) ⟨Nat.le_of_ble_eq_true rfl, Nat.le_of_ble_eq_true rfl⟩) ⟨fun a U g mk q => ⟨q.1, mW_bl q.2⟩, (mW_rv hw), fun U hU hW => ⟨rfl, mW_mv hw hU hW⟩⟩ rfl rfl hl.1 rfl (lv_room (Nat.le_of_ble_eq_true rfl)) dX7_step_3 ⟨Nat.zero_le _, Nat.zero_le _⟩)) (fun r_3 hr_3 => ?_)
  subst hr_3
  refine lv_topi (fun v4_1 e_v4_1 => ?_)
  have hf : f_X7_step S x1 x2 x3 = (f_X7_step_15 v4_1 x3 S x1 x2) := hf.trans (congrArg (fun z => (f_X7_step_15 z x3 S x1 x2)) e_v4_1.symm)
  refine lv_istore (lv' := [(4, .int v4_1), (0, .ref o), (1, .int x1), (2, .int x2), (3, .int x3)]) hx hb dX7_step_6 hl (by decide) rfl (fun ls hl => ?_)
  refine lv_iload hx hb dX7_step_8 (lv_at hl 0 rfl) ?_
  refine lv_if_ne (tgt := 28) hx hb dX7_step_10 (by decide) (fun c_10 => ?_) (fun c_10 => ?_)
  · have hf : f_X7_step S x1 x2 x3 = (f_X7_step_11 v4_1 S x1 x2 x3) := hf.trans (if_neg c_10)
    refine lv_iload hx hb dX7_step_28 (lv_at hl 0 rfl) ?_
    refine lv_if_le (tgt := 40) hx hb dX7_step_30 (by decide) (fun c_30 => ?_) (fun c_30 => ?_)
    · have hf : f_X7_step S x1 x2 x3 = (f_X7_step_9 (mset_s S (0 : Int32)) x1 x2 x3) := hf.trans (if_pos c_30)
      have hL : mPl S x1 x2 := why_ok hI e_v4_1 c_30
      refine lv_aload_n hx hb dX7_step_40 rfl (lv_at hl 1 rfl) ?_
      refine lv_iconst (v := 0) hx hb dX7_step_41 (by decide) ?_
      refine va_put (D := (dC, dI)) (ci := 5) (v := .int (0 : Int32)) (ty := .int) (C := RX7) (T := TX7) (N := 18) hx hb hts zin_X7 tyX7 tyX7_ok nmX7 hown hK hP hD hS 0 rfl rfl 17 (by decide) (hts _ (zin__r4 (.fieldLink RX7 75 "ReckonBenchModel" "status" "I") (List.mem_of_getElem? (i := 13) rfl))) (fun _ h9 => h9) rfl (by decide +kernel) rfl rfl (Nat.le_of_ble_eq_true rfl) dX7_step_42 (fun H locs hP hD hS => ?_)
      obtain ⟨S_2, e_S_2⟩ : ∃ z : MSt, z = (mset_s S (0 : Int32)) := ⟨_, rfl⟩
      have hP : va_P (dC, dI) vwCl (mWs o r cI cJ S_2) H := by rw [e_S_2]; exact hP
      have hD : va_D A (mWs o r cI cJ S_2) := by rw [e_S_2]; exact hD
      have hw : mH dC dI o r cI cJ S_2 s H := ⟨hP, hK⟩
      have hm := mA_of hts hw
      have hI : mInv S_2 := by rw [e_S_2]; exact hI
      have hL : mPl S_2 x1 x2 := by rw [e_S_2]; exact hL
      have hf : f_X7_step S x1 x2 x3 = (f_X7_step_9 S_2 x1 x2 x3) := hf.trans (congrArg (fun z => (f_X7_step_9 z x1 x2 x3)) e_S_2.symm)
      refine lv_aload_n hx hb dX7_step_45 rfl (lv_at hl 1 rfl) ?_
      refine va_get (D := (dC, dI)) (ci := 5) (v := .ref (r 8)) (C := RX7) (T := TX7) (N := 18) hx hb hts zin_X7 hown hK hP 0 rfl rfl 8 (by decide) (hts _ (zin__r3 (.fieldLink RX7 51 "ReckonBenchModel" "kinds" "[I") (List.mem_of_getElem? (i := 2) rfl))) (fun _ h9 => h9) rfl dX7_step_46 ?_
      refine lv_iload_n hx hb dX7_step_49 rfl (lv_at hl 2 rfl) ?_
      refine va_iald (f := fun j => nI (mk S_2 j)) hx hb hK hP 9 0 rfl rfl (mRow.in2 hI (mPl.row hL)) dX7_step_50 ?_
      refine lv_istore (lv' := [(5, .int (nI (mk S_2 x1.toNatClampNeg))), (4, .int v4_1), (0, .ref o), (1, .int x1), (2, .int x2), (3, .int x3)]) hx hb dX7_step_51 hl (by decide) rfl (fun ls hl => ?_)
      refine lv_aload_n hx hb dX7_step_53 rfl (lv_at hl 2 rfl) ?_
      refine lv_iload_n hx hb dX7_step_54 rfl (lv_at hl 3 rfl) ?_
      refine lv_iload_n hx hb dX7_step_55 rfl (lv_at hl 4 rfl) ?_
      refine vp_callSl (va_Run.run (va_runV (As := [.int x1, .int x2]) (rest := []) ⟨hx, hb, hml, hown, hts⟩ (c_X7_at l dC dI o r cI cJ S_2 x1 x2 (mRow.in0 hI (mPl.row hL)) (mPl.at hI hL)) (cwV 2 hts (gV iX7_at (zin__r11 (.methodLink RX7 155 yX7_at) (List.mem_of_getElem? (i := 2) rfl))) rfl rfl rfl (by decide +kernel) ⟨Nat.le_of_ble_eq_true rfl, Nat.le_of_ble_eq_true rfl⟩) ⟨fun a U g mk q => ⟨q.1, mW_bl q.2⟩, (mW_rv hw), fun U hU hW => ⟨rfl, mW_mv hw hU hW⟩⟩ rfl rfl hl.1 rfl (lv_room (Nat.le_of_ble_eq_true rfl)) dX7_step_56 ⟨Nat.zero_le _, Nat.zero_le _⟩)) (fun r_56 hr_56 => ?_)
      subst hr_56
      refine lv_topl (fun v6_3 e_v6_3 => ?_)
      have hf : f_X7_step S x1 x2 x3 = (f_X7_step_8 S_2 x1 v6_3 x3 x2) := hf.trans (congrArg (fun z => (f_X7_step_8 S_2 x1 z x3 x2)) e_v6_3.symm)
      refine lv_lstore (lv' := [(6, .long v6_3), (5, .int (nI (mk S_2 x1.toNatClampNeg))), (4, .int v4_1), (0, .ref o), (1, .int x1), (2, .int x2), (3, .int x3)]) hx hb dX7_step_59 hl (by decide) rfl (fun ls hl => ?_)
      refine lv_aload_n hx hb dX7_step_61 rfl (lv_at hl 3 rfl) ?_
      refine lv_iload hx hb dX7_step_62 (lv_at hl 1 rfl) ?_
      refine lv_lload hx hb dX7_step_64 (lv_at hl 0 rfl) ?_
      refine vp_callSi (va_Run.run (va_runV (As := [.int (nI (mk S_2 x1.toNatClampNeg)), .long v6_3]) (rest := []) ⟨hx, hb, hml, hown, hts⟩ (c_X7_none l o r (mk S_2 x1.toNatClampNeg) (mRow.k hI (mPl.row hL)) v6_3) (cwV 2 hts (gV iX7_none (zin__r7 (.methodLink RX7 98 yX7_none) (List.mem_of_getElem? (i := 17) rfl))) rfl rfl rfl (by decide +kernel) ⟨Nat.le_of_ble_eq_true rfl, Nat.le_of_ble_eq_true rfl⟩) ⟨fun a U g mk q => ⟨q.1, mU_bl q.2⟩, (mW_rv hw), fun U hU hW => ⟨rfl, mU_mvH hm hU hW⟩⟩ rfl rfl hl.1 rfl (lv_room (Nat.le_of_ble_eq_true rfl)) dX7_step_66 ⟨Nat.zero_le _, Nat.zero_le _⟩)) (fun r_66 hr_66 => ?_)
      subst hr_66
      refine lv_if_eq (tgt := 74) hx hb dX7_step_69 (by decide) (fun c_69 => ?_) (fun c_69 => ?_)
      · have hf : f_X7_step S x1 x2 x3 = (f_X7_step_7 (f_X7_rank (mk S_2 x1.toNatClampNeg) v6_3) x3 S_2 x1 x2) := hf.trans (if_pos c_69)
        refine lv_aload_n hx hb dX7_step_74 rfl (lv_at hl 3 rfl) ?_
        refine lv_iload hx hb dX7_step_75 (lv_at hl 1 rfl) ?_
        refine lv_lload hx hb dX7_step_77 (lv_at hl 0 rfl) ?_
        refine vp_callSl (va_Run.run (va_runV (As := [.int (nI (mk S_2 x1.toNatClampNeg)), .long v6_3]) (rest := []) ⟨hx, hb, hml, hown, hts⟩ (c_X7_rank l o r (mk S_2 x1.toNatClampNeg) (mRow.k hI (mPl.row hL)) v6_3) (cwV 2 hts (gV iX7_rank (zin__r14 (.methodLink RX7 133 yX7_rank) (List.mem_of_getElem? (i := 11) rfl))) rfl rfl rfl (by decide +kernel) ⟨Nat.le_of_ble_eq_true rfl, Nat.le_of_ble_eq_true rfl⟩) ⟨fun a U g mk q => ⟨q.1, mU_bl q.2⟩, (mW_rv hw), fun U hU hW => ⟨rfl, mU_mvH hm hU hW⟩⟩ rfl rfl hl.1 rfl (lv_room (Nat.le_of_ble_eq_true rfl)) dX7_step_79 ⟨Nat.zero_le _, Nat.zero_le _⟩)) (fun r_79 hr_79 => ?_)
        subst hr_79
        refine lv_topl (fun v8_4 e_v8_4 => ?_)
        have hf : f_X7_step S x1 x2 x3 = (f_X7_step_7 v8_4 x3 S_2 x1 x2) := hf.trans (congrArg (fun z => (f_X7_step_7 z x3 S_2 x1 x2)) e_v8_4.symm)
        refine lv_lstore (lv' := [(8, .long v8_4), (6, .long v6_3), (5, .int (nI (mk S_2 x1.toNatClampNeg))), (4, .int v4_1), (0, .ref o), (1, .int x1), (2, .int x2), (3, .int x3)]) hx hb dX7_step_82 hl (by decide) rfl (fun ls hl => ?_)
        refine lv_lload hx hb dX7_step_84 (lv_at hl 0 rfl) ?_
        refine lv_iload_n hx hb dX7_step_86 rfl (lv_at hl 7 rfl) ?_
        refine lv_i2l (v := ((x3).toInt64)) hx hb dX7_step_87 rfl ?_
        refine lv_ladd hx hb dX7_step_88 ?_
        refine lv_topl (fun v10_5 e_v10_5 => ?_)
        have hf : f_X7_step S x1 x2 x3 = (f_X7_step_6 v10_5 S_2 x1 v8_4 x2) := hf.trans (congrArg (fun z => (f_X7_step_6 z S_2 x1 v8_4 x2)) e_v10_5.symm)
        refine lv_lstore (lv' := [(10, .long v10_5), (8, .long v8_4), (6, .long v6_3), (5, .int (nI (mk S_2 x1.toNatClampNeg))), (4, .int v4_1), (0, .ref o), (1, .int x1), (2, .int x2), (3, .int x3)]) hx hb dX7_step_89 hl (by decide) rfl (fun ls hl => ?_)
        refine lv_lload hx hb dX7_step_91 (lv_at hl 0 rfl) ?_
        refine lv_aload_n hx hb dX7_step_93 rfl (lv_at hl 5 rfl) ?_
        refine va_get (D := (dC, dI)) (ci := 5) (v := .ref (r 4)) (C := RX7) (T := TX7) (N := 18) hx hb hts zin_X7 hown hK hP 0 rfl rfl 4 (by decide) (hts _ (zin__r2 (.fieldLink RX7 31 "ReckonBenchModel" "INFINITE" "[J") (List.mem_of_getElem? (i := 18) rfl))) (fun _ h9 => h9) rfl dX7_step_94 ?_
        refine lv_iload hx hb dX7_step_97 (lv_at hl 3 rfl) ?_
        refine va_lald (f := kinf) hx hb hK hP 5 1 rfl rfl (kin (mRow.k hI (mPl.row hL))) dX7_step_99 ?_
        rw [kcl (mRow.k hI (mPl.row hL))]
        refine W.lcmp hx hb dX7_step_100 ?_
        refine W_cut (α := Int64) (pcJ := 113) (nL := 12) (fun v => f_X7_step S x1 x2 x3 = (f_X7_step_5 S_2 x1 v v8_4 x2)) (fun v => []) (fun v => [(0, .ref o), (1, .int x1), (2, .int x2), (5, .int (nI (mk S_2 x1.toNatClampNeg))), (8, .long v8_4), (10, .long v)]) (fun v10_6 ls hf hl => ?_) (fun K_113 => ?_)
        · have hf : f_X7_step S x1 x2 x3 = (f_X7_step_5 S_2 x1 v10_6 v8_4 x2) := hf
          have hl : lv_has ls 12 [(0, .ref o), (1, .int x1), (2, .int x2), (5, .int (nI (mk S_2 x1.toNatClampNeg))), (8, .long v8_4), (10, .long v10_6)] := hl
          refine lv_lload hx hb dX7_step_113 (lv_at hl 5 rfl) ?_
          refine lv_aload_n hx hb dX7_step_115 rfl (lv_at hl 0 rfl) ?_
          refine va_get (D := (dC, dI)) (ci := 5) (v := .ref (r 4)) (C := RX7) (T := TX7) (N := 18) hx hb hts zin_X7 hown hK hP 0 rfl rfl 4 (by decide) (hts _ (zin__r2 (.fieldLink RX7 31 "ReckonBenchModel" "INFINITE" "[J") (List.mem_of_getElem? (i := 18) rfl))) (fun _ h9 => h9) rfl dX7_step_116 ?_
          refine lv_iload hx hb dX7_step_119 (lv_at hl 3 rfl) ?_
          refine va_lald (f := kinf) hx hb hK hP 5 1 rfl rfl (kin (mRow.k hI (mPl.row hL))) dX7_step_121 ?_
          rw [kcl (mRow.k hI (mPl.row hL))]
          refine lv_lneg hx hb dX7_step_122 ?_
          refine W.lcmp hx hb dX7_step_123 ?_
          refine W_cut (α := Int64) (pcJ := 137) (nL := 12) (fun v => f_X7_step S x1 x2 x3 = (f_X7_step_4 v v8_4 S_2 x1 x2)) (fun v => []) (fun v => [(0, .ref o), (1, .int x1), (2, .int x2), (5, .int (nI (mk S_2 x1.toNatClampNeg))), (8, .long v8_4), (10, .long v)]) (fun v10_7 ls hf hl => ?_) (fun K_137 => ?_)
          · have hf : f_X7_step S x1 x2 x3 = (f_X7_step_4 v10_7 v8_4 S_2 x1 x2) := hf
            have hl : lv_has ls 12 [(0, .ref o), (1, .int x1), (2, .int x2), (5, .int (nI (mk S_2 x1.toNatClampNeg))), (8, .long v8_4), (10, .long v10_7)] := hl
            refine lv_lload hx hb dX7_step_137 (lv_at hl 5 rfl) ?_
            refine lv_lload hx hb dX7_step_139 (lv_at hl 4 rfl) ?_
            refine W.lcmp hx hb dX7_step_141 ?_
            refine lv_if_ne (tgt := 147) hx hb dX7_step_142 (by decide) (fun c_142 => ?_) (fun c_142 => ?_)
            · have c_142 : ¬ (v10_7 = v8_4) := fun h9 => c_142 ((lg_cmp_eq v10_7 v8_4).mpr h9)
              have hf : f_X7_step S x1 x2 x3 = (f_X7_step_3 v10_7 v8_4 S_2 x1 x2) := hf.trans (if_neg c_142)
              refine lv_aload_n hx hb dX7_step_147 rfl (lv_at hl 0 rfl) ?_
              refine va_get (D := (dC, dI)) (ci := 5) (v := .ref (r 9)) (C := RX7) (T := TX7) (N := 18) hx hb hts zin_X7 hown hK hP 0 rfl rfl 9 (by decide) (hts _ (zin__r3 (.fieldLink RX7 54 "ReckonBenchModel" "bits" "[J") (List.mem_of_getElem? (i := 3) rfl))) (fun _ h9 => h9) rfl dX7_step_148 ?_
              refine lv_aload_n hx hb dX7_step_151 rfl (lv_at hl 0 rfl) ?_
              refine va_get (D := (dC, dI)) (ci := 5) (v := .ref (r 7)) (C := RX7) (T := TX7) (N := 18) hx hb hts zin_X7 hown hK hP 0 rfl rfl 7 (by decide) (hts _ (zin__r3 (.fieldLink RX7 48 "ReckonBenchModel" "first" "[I") (List.mem_of_getElem? (i := 1) rfl))) (fun _ h9 => h9) rfl dX7_step_152 ?_
              refine lv_iload_n hx hb dX7_step_155 rfl (lv_at hl 1 rfl) ?_
              refine va_iald (f := fun j => nI (mf S_2 j)) hx hb hK hP 8 0 rfl rfl (mRow.in0 hI (mPl.row hL)) dX7_step_156 ?_
              refine lv_iload_n hx hb dX7_step_157 rfl (lv_at hl 2 rfl) ?_
              refine lv_iadd hx hb dX7_step_158 ?_
              refine lv_aload_n hx hb dX7_step_159 rfl (lv_at hl 0 rfl) ?_
              refine lv_iload hx hb dX7_step_160 (lv_at hl 3 rfl) ?_
              refine lv_lload hx hb dX7_step_162 (lv_at hl 5 rfl) ?_
              refine lv_lload hx hb dX7_step_164 (lv_at hl 5 rfl) ?_
              refine lv_lload hx hb dX7_step_166 (lv_at hl 4 rfl) ?_
              refine W.lcmp hx hb dX7_step_168 ?_
              refine W_cut (α := Int32) (pcJ := 177) (nL := 12) (fun v => f_X7_step S x1 x2 x3 = (f_X7_step_2 v10_7 v8_4 S_2 x1 x2 v)) (fun v => [.int v, .long v10_7, .int (nI (mk S_2 x1.toNatClampNeg)), .ref o, .int ((nI (mf S_2 x1.toNatClampNeg)) + x2), .ref (r 9)]) (fun v => [(8, .long v8_4), (10, .long v10_7)]) (fun w_8 ls hf hl => ?_) (fun K_177 => ?_)
              · have hf : f_X7_step S x1 x2 x3 = (f_X7_step_1 v10_7 v8_4 (mset_b S_2 (vp_updL (mb S_2) ((nI (mf S_2 x1.toNatClampNeg)) + x2).toNatClampNeg (f_X7_ofRank (mk S_2 x1.toNatClampNeg) v10_7 w_8)))) := hf
                have hl : lv_has ls 12 [(8, .long v8_4), (10, .long v10_7)] := hl
                refine vp_callSl (va_Run.run (va_runV (As := [.int (nI (mk S_2 x1.toNatClampNeg)), .long v10_7, .int w_8]) (rest := [.int ((nI (mf S_2 x1.toNatClampNeg)) + x2), .ref (r 9)]) ⟨hx, hb, hml, hown, hts⟩ (c_X7_ofRank l o r (mk S_2 x1.toNatClampNeg) (mRow.k hI (mPl.row hL)) v10_7 w_8) (cwV 3 hts (gV iX7_ofRank (zin__r23 (.methodLink RX7 136 yX7_ofRank) (List.mem_of_getElem? (i := 3) rfl))) rfl rfl rfl (by decide +kernel) ⟨Nat.le_of_ble_eq_true rfl, Nat.le_of_ble_eq_true rfl⟩) ⟨fun a U g mk q => ⟨q.1, mU_bl q.2⟩, (mW_rv hw), fun U hU hW => ⟨rfl, mU_mvH hm hU hW⟩⟩ rfl rfl hl.1 rfl (lv_room (Nat.le_of_ble_eq_true rfl)) dX7_step_177 ⟨Nat.zero_le _, Nat.zero_le _⟩)) (fun r_177 hr_177 => ?_)
                subst hr_177
                refine va_last (f := mb S_2) hx hb hK hP hD hS 10 1 rfl rfl (mPl.at hI hL) dX7_step_180 (fun H locs hP hD hS => ?_)
                obtain ⟨S_9, e_S_9⟩ : ∃ z : MSt, z = (mset_b S_2 (vp_updL (mb S_2) ((nI (mf S_2 x1.toNatClampNeg)) + x2).toNatClampNeg (f_X7_ofRank (mk S_2 x1.toNatClampNeg) v10_7 w_8))) := ⟨_, rfl⟩
                have hP : va_P (dC, dI) vwCl (mWs o r cI cJ S_9) H := by rw [e_S_9]; exact hP
                have hD : va_D A (mWs o r cI cJ S_9) := by rw [e_S_9]; exact hD
                have hw : mH dC dI o r cI cJ S_9 s H := ⟨hP, hK⟩
                have hm := mA_of hts hw
                have hL : mPl S_9 x1 x2 := by rw [e_S_9]; exact hL
                have hf : f_X7_step S x1 x2 x3 = (f_X7_step_1 v10_7 v8_4 S_9) := hf.trans (congrArg (fun z => (f_X7_step_1 v10_7 v8_4 z)) e_S_9.symm)
                refine lv_lload hx hb dX7_step_181 (lv_at hl 1 rfl) ?_
                refine lv_lload hx hb dX7_step_183 (lv_at hl 0 rfl) ?_
                refine W.lcmp hx hb dX7_step_185 ?_
                refine lv_if_le (tgt := 197) hx hb dX7_step_186 (by decide) (fun c_186 => ?_) (fun c_186 => ?_)
                · have c_186 : v10_7 ≤ v8_4 := (lg_cmp_le v10_7 v8_4).mp c_186
                  have hf : f_X7_step S x1 x2 x3 = ((((v8_4 - v10_7)).toInt32), S_9) := hf.trans (if_pos c_186)
                  refine lv_lload hx hb dX7_step_197 (lv_at hl 0 rfl) ?_
                  refine lv_lload hx hb dX7_step_199 (lv_at hl 1 rfl) ?_
                  refine lv_lsub hx hb dX7_step_201 ?_
                  refine lv_l2i (v := (((v8_4 - v10_7)).toInt32)) hx hb dX7_step_202 rfl ?_
                  exact W.iret hx hb hr (fun t ht hW => ⟨⟨_, S_9, rfl, hf.symm, by rw [ht]; exact hP, va_K.moved hW.alike hK, hD⟩, hS.F ht⟩) hS.2.2 dX7_step_203
                · have c_186 : ¬ (v10_7 ≤ v8_4) := fun h9 => c_186 ((lg_cmp_le v10_7 v8_4).mpr h9)
                  have hf : f_X7_step S x1 x2 x3 = ((((v10_7 - v8_4)).toInt32), S_9) := hf.trans (if_neg c_186)
                  refine lv_lload hx hb dX7_step_189 (lv_at hl 1 rfl) ?_
                  refine lv_lload hx hb dX7_step_191 (lv_at hl 0 rfl) ?_
                  refine lv_lsub hx hb dX7_step_193 ?_
                  refine lv_goto (tgt := 202) hx hb dX7_step_194 (by decide) ?_
                  refine lv_l2i (v := (((v10_7 - v8_4)).toInt32)) hx hb dX7_step_202 rfl ?_
                  exact W.iret hx hb hr (fun t ht hW => ⟨⟨_, S_9, rfl, hf.symm, by rw [ht]; exact hP, va_K.moved hW.alike hK, hD⟩, hS.F ht⟩) hS.2.2 dX7_step_203
              refine lv_if_le (tgt := 176) hx hb dX7_step_169 (by decide) (fun c_169 => ?_) (fun c_169 => ?_)
              · have c_169 : v10_7 ≤ v8_4 := (lg_cmp_le v10_7 v8_4).mp c_169
                have hf : f_X7_step S x1 x2 x3 = (f_X7_step_2 v10_7 v8_4 S_2 x1 x2 (0 : Int32)) := hf.trans (if_pos c_169)
                refine lv_iconst (v := 0) hx hb dX7_step_176 (by decide) ?_
                exact K_177 (0 : Int32) ls hf (lv_sub hl [4, 5] rfl)
              · have c_169 : ¬ (v10_7 ≤ v8_4) := fun h9 => c_169 ((lg_cmp_le v10_7 v8_4).mpr h9)
                have hf : f_X7_step S x1 x2 x3 = (f_X7_step_2 v10_7 v8_4 S_2 x1 x2 (1 : Int32)) := hf.trans (if_neg c_169)
                refine lv_iconst (v := 1) hx hb dX7_step_172 (by decide) ?_
                refine lv_goto (tgt := 177) hx hb dX7_step_173 (by decide) ?_
                exact K_177 (1 : Int32) ls hf (lv_sub hl [4, 5] rfl)
            · have c_142 : v10_7 = v8_4 := (lg_cmp_eq v10_7 v8_4).mp c_142
              have hf : f_X7_step S x1 x2 x3 = ((0 : Int32), S_2) := hf.trans (if_pos c_142)
              refine lv_iconst (v := 0) hx hb dX7_step_145 (by decide) ?_
              exact W.iret hx hb hr (fun t ht hW => ⟨⟨_, S_2, rfl, hf.symm, by rw [ht]; exact hP, va_K.moved hW.alike hK, hD⟩, hS.F ht⟩) hS.2.2 dX7_step_146
          refine lv_if_ge (tgt := 137) hx hb dX7_step_124 (by decide) (fun c_124 => ?_) (fun c_124 => ?_)
          · have c_124 : (-(kinf (mk S_2 x1.toNatClampNeg))) ≤ v10_6 := (lg_cmp_ge v10_6 (-(kinf (mk S_2 x1.toNatClampNeg)))).mp c_124
            have hf : f_X7_step S x1 x2 x3 = (f_X7_step_4 v10_6 v8_4 S_2 x1 x2) := hf.trans (if_pos c_124)
            exact K_137 v10_6 ls hf (lv_sub hl [0, 1, 2, 3, 4, 5] rfl)
          · have c_124 : ¬ ((-(kinf (mk S_2 x1.toNatClampNeg))) ≤ v10_6) := fun h9 => c_124 ((lg_cmp_ge v10_6 (-(kinf (mk S_2 x1.toNatClampNeg)))).mpr h9)
            have hf : f_X7_step S x1 x2 x3 = (f_X7_step_4 (-(kinf (mk S_2 x1.toNatClampNeg))) v8_4 S_2 x1 x2) := hf.trans (if_neg c_124)
            refine lv_aload_n hx hb dX7_step_127 rfl (lv_at hl 0 rfl) ?_
            refine va_get (D := (dC, dI)) (ci := 5) (v := .ref (r 4)) (C := RX7) (T := TX7) (N := 18) hx hb hts zin_X7 hown hK hP 0 rfl rfl 4 (by decide) (hts _ (zin__r2 (.fieldLink RX7 31 "ReckonBenchModel" "INFINITE" "[J") (List.mem_of_getElem? (i := 18) rfl))) (fun _ h9 => h9) rfl dX7_step_128 ?_
            refine lv_iload hx hb dX7_step_131 (lv_at hl 3 rfl) ?_
            refine va_lald (f := kinf) hx hb hK hP 5 1 rfl rfl (kin (mRow.k hI (mPl.row hL))) dX7_step_133 ?_
            rw [kcl (mRow.k hI (mPl.row hL))]
            refine lv_lneg hx hb dX7_step_134 ?_
            refine lv_topl (fun v10_10 e_v10_10 => ?_)
            have hf : f_X7_step S x1 x2 x3 = (f_X7_step_4 v10_10 v8_4 S_2 x1 x2) := hf.trans (congrArg (fun z => (f_X7_step_4 z v8_4 S_2 x1 x2)) e_v10_10.symm)
            refine lv_lstore (lv' := [(10, .long v10_10), (0, .ref o), (1, .int x1), (2, .int x2), (5, .int (nI (mk S_2 x1.toNatClampNeg))), (8, .long v8_4)]) hx hb dX7_step_135 hl (by decide) rfl (fun ls hl => ?_)
            exact K_137 v10_10 ls hf (lv_sub hl [1, 2, 3, 4, 5, 0] rfl)
        refine lv_if_le (tgt := 113) hx hb dX7_step_101 (by decide) (fun c_101 => ?_) (fun c_101 => ?_)
        · have c_101 : v10_5 ≤ (kinf (mk S_2 x1.toNatClampNeg)) := (lg_cmp_le v10_5 (kinf (mk S_2 x1.toNatClampNeg))).mp c_101
          have hf : f_X7_step S x1 x2 x3 = (f_X7_step_5 S_2 x1 v10_5 v8_4 x2) := hf.trans (if_pos c_101)
          exact K_113 v10_5 ls hf (lv_sub hl [5, 6, 7, 3, 1, 0] rfl)
        · have c_101 : ¬ (v10_5 ≤ (kinf (mk S_2 x1.toNatClampNeg))) := fun h9 => c_101 ((lg_cmp_le v10_5 (kinf (mk S_2 x1.toNatClampNeg))).mpr h9)
          have hf : f_X7_step S x1 x2 x3 = (f_X7_step_5 S_2 x1 (kinf (mk S_2 x1.toNatClampNeg)) v8_4 x2) := hf.trans (if_neg c_101)
          refine lv_aload_n hx hb dX7_step_104 rfl (lv_at hl 5 rfl) ?_
          refine va_get (D := (dC, dI)) (ci := 5) (v := .ref (r 4)) (C := RX7) (T := TX7) (N := 18) hx hb hts zin_X7 hown hK hP 0 rfl rfl 4 (by decide) (hts _ (zin__r2 (.fieldLink RX7 31 "ReckonBenchModel" "INFINITE" "[J") (List.mem_of_getElem? (i := 18) rfl))) (fun _ h9 => h9) rfl dX7_step_105 ?_
          refine lv_iload hx hb dX7_step_108 (lv_at hl 3 rfl) ?_
          refine va_lald (f := kinf) hx hb hK hP 5 1 rfl rfl (kin (mRow.k hI (mPl.row hL))) dX7_step_110 ?_
          rw [kcl (mRow.k hI (mPl.row hL))]
          refine lv_topl (fun v10_11 e_v10_11 => ?_)
          have hf : f_X7_step S x1 x2 x3 = (f_X7_step_5 S_2 x1 v10_11 v8_4 x2) := hf.trans (congrArg (fun z => (f_X7_step_5 S_2 x1 z v8_4 x2)) e_v10_11.symm)
          refine lv_lstore (lv' := [(10, .long v10_11), (8, .long v8_4), (6, .long v6_3), (5, .int (nI (mk S_2 x1.toNatClampNeg))), (4, .int v4_1), (0, .ref o), (1, .int x1), (2, .int x2), (3, .int x3)]) hx hb dX7_step_111 hl (by decide) rfl (fun ls hl => ?_)
          exact K_113 v10_11 ls hf (lv_sub hl [5, 6, 7, 3, 1, 0] rfl)
      · have hf : f_X7_step S x1 x2 x3 = ((0 : Int32), S_2) := hf.trans (if_neg c_69)
        refine lv_iconst (v := 0) hx hb dX7_step_72 (by decide) ?_
        exact W.iret hx hb hr (fun t ht hW => ⟨⟨_, S_2, rfl, hf.symm, by rw [ht]; exact hP, va_K.moved hW.alike hK, hD⟩, hS.F ht⟩) hS.2.2 dX7_step_73
    · have hf : f_X7_step S x1 x2 x3 = (f_X7_step_10 (f_X7_no S v4_1)) := hf.trans (if_neg c_30)
      refine lv_aload_n hx hb dX7_step_33 rfl (lv_at hl 1 rfl) ?_
      refine lv_iload hx hb dX7_step_34 (lv_at hl 0 rfl) ?_
      have hFc := va_free (wc := mWs o r cI cJ S) hD hS hA [0, 1, 2, 3, 4, 5, 6, 7, 8, 9, 10, 11, 12, 13, 14, 15, 16] rfl
      refine va_calli (va_runV (As := [.int v4_1]) (rest := []) ⟨hx, hb, hml, hown, hts⟩ (c_X7_no l dC dI o r cI cJ s.heap.size S v4_1) (cwV 1 hts (gV iX7_no (zin__r4 (.methodLink RX7 139 yX7_no) (List.mem_of_getElem? (i := 14) rfl))) rfl rfl rfl (by decide +kernel) ⟨Nat.le_of_ble_eq_true rfl, Nat.le_of_ble_eq_true rfl⟩) ⟨fun a U g mk q => ⟨q.1, mB_bl q.2⟩, mW_rv hw, fun U hU hW => ⟨rfl, mB_mv hw hD hU hW⟩⟩ rfl rfl hl.1 rfl (lv_room (Nat.le_of_ble_eq_true rfl)) dX7_step_36 ⟨Nat.zero_le _, Nat.zero_le _⟩) hS (fun q _ h => hFc q h) hFc (fun r_36 S_12 t H1 locs ht hvm hw1 hB hz1 hk1 hS => ?_)
      obtain ⟨hP, -, hD1⟩ := hB
      rw [ht] at hP
      have hD := hD1.weaken (fun k q _ h => hFc q.1 h)
      generalize H1 = H at hP hS ⊢
      have hw : mH dC dI o r cI cJ S_12 s H := ⟨hP, hK⟩
      have hm := mA_of hts hw
      have hf : f_X7_step S x1 x2 x3 = (r_36, S_12) := hf.trans (congrArg (fun z => (f_X7_step_10 z)) hw1.symm)
      exact W.iret hx hb hr (fun t ht hW => ⟨⟨_, S_12, rfl, hf.symm, by rw [ht]; exact hP, va_K.moved hW.alike hK, hD⟩, hS.F ht⟩) hS.2.2 dX7_step_39
  · have hf : f_X7_step S x1 x2 x3 = (f_X7_step_14 x3 S v4_1 x1 x2) := hf.trans (if_pos c_10)
    refine lv_iload_n hx hb dX7_step_13 rfl (lv_at hl 4 rfl) ?_
    refine lv_ldc (v := -1000000000) hx hb hown (hts _ (zin__r23 (.constant RX7 212 (-1000000000)) (List.mem_of_getElem? (i := 1) rfl))) dX7_step_14 ?_
    refine W_cut (α := Unit) (pcJ := 25) (nL := 12) (fun v => f_X7_step S x1 x2 x3 = (f_X7_step_12 S)) (fun v => []) (fun v => [(0, .ref o), (1, .int x1), (2, .int x2), (3, .int x3)]) (fun v ls hf hl => ?_) (fun K_25 => ?_)
    · have hf : f_X7_step S x1 x2 x3 = (f_X7_step_10 (f_X7_no S (2 : Int32))) := hf
      have hl : lv_has ls 12 [(0, .ref o), (1, .int x1), (2, .int x2), (3, .int x3)] := hl
      refine lv_iconst (v := 2) hx hb dX7_step_25 (by decide) ?_
      refine lv_istore (lv' := [(4, .int (2 : Int32)), (0, .ref o), (1, .int x1), (2, .int x2), (3, .int x3)]) hx hb dX7_step_26 hl (by decide) rfl (fun ls hl => ?_)
      refine lv_iload hx hb dX7_step_28 (lv_at hl 0 rfl) ?_
      refine lv_if_le (tgt := 40) hx hb dX7_step_30 (by decide) (fun c_30 => ?_) (fun c_30 => ?_)
      · exact absurd c_30 (by decide)
      · refine lv_aload_n hx hb dX7_step_33 rfl (lv_at hl 1 rfl) ?_
        refine lv_iload hx hb dX7_step_34 (lv_at hl 0 rfl) ?_
        have hFc := va_free (wc := mWs o r cI cJ S) hD hS hA [0, 1, 2, 3, 4, 5, 6, 7, 8, 9, 10, 11, 12, 13, 14, 15, 16] rfl
        refine va_calli (va_runV (As := [.int (2 : Int32)]) (rest := []) ⟨hx, hb, hml, hown, hts⟩ (c_X7_no l dC dI o r cI cJ s.heap.size S (2 : Int32)) (cwV 1 hts (gV iX7_no (zin__r4 (.methodLink RX7 139 yX7_no) (List.mem_of_getElem? (i := 14) rfl))) rfl rfl rfl (by decide +kernel) ⟨Nat.le_of_ble_eq_true rfl, Nat.le_of_ble_eq_true rfl⟩) ⟨fun a U g mk q => ⟨q.1, mB_bl q.2⟩, mW_rv hw, fun U hU hW => ⟨rfl, mB_mv hw hD hU hW⟩⟩ rfl rfl hl.1 rfl (lv_room (Nat.le_of_ble_eq_true rfl)) dX7_step_36 ⟨Nat.zero_le _, Nat.zero_le _⟩) hS (fun q _ h => hFc q h) hFc (fun r_36 S_13 t H1 locs ht hvm hw1 hB hz1 hk1 hS => ?_)
        obtain ⟨hP, -, hD1⟩ := hB
        rw [ht] at hP
        have hD := hD1.weaken (fun k q _ h => hFc q.1 h)
        generalize H1 = H at hP hS ⊢
        have hw : mH dC dI o r cI cJ S_13 s H := ⟨hP, hK⟩
        have hm := mA_of hts hw
        have hf : f_X7_step S x1 x2 x3 = (r_36, S_13) := hf.trans (congrArg (fun z => (f_X7_step_10 z)) hw1.symm)
        exact W.iret hx hb hr (fun t ht hW => ⟨⟨_, S_13, rfl, hf.symm, by rw [ht]; exact hP, va_K.moved hW.alike hK, hD⟩, hS.F ht⟩) hS.2.2 dX7_step_39
    refine lv_icmp_lt (tgt := 25) hx hb dX7_step_16 (by decide) (fun c_16 => ?_) (fun c_16 => ?_)
    · have hf : f_X7_step S x1 x2 x3 = (f_X7_step_12 S) := hf.trans (if_pos c_16)
      exact K_25 () ls hf (lv_sub hl [1, 2, 3, 4] rfl)
    · have hf : f_X7_step S x1 x2 x3 = (f_X7_step_13 x3 v4_1 S x1 x2) := hf.trans (if_neg c_16)
      refine lv_iload_n hx hb dX7_step_19 rfl (lv_at hl 4 rfl) ?_
      refine lv_ldc (v := 1000000000) hx hb hown (hts _ (zin__r23 (.constant RX7 213 (1000000000)) (List.mem_of_getElem? (i := 2) rfl))) dX7_step_20 ?_
      refine lv_icmp_le (tgt := 28) hx hb dX7_step_22 (by decide) (fun c_22 => ?_) (fun c_22 => ?_)
      · have hf : f_X7_step S x1 x2 x3 = (f_X7_step_11 v4_1 S x1 x2 x3) := hf.trans (if_pos c_22)
        refine lv_iload hx hb dX7_step_28 (lv_at hl 0 rfl) ?_
        refine lv_if_le (tgt := 40) hx hb dX7_step_30 (by decide) (fun c_30 => ?_) (fun c_30 => ?_)
        · have hf : f_X7_step S x1 x2 x3 = (f_X7_step_9 (mset_s S (0 : Int32)) x1 x2 x3) := hf.trans (if_pos c_30)
          have hL : mPl S x1 x2 := why_ok hI e_v4_1 c_30
          refine lv_aload_n hx hb dX7_step_40 rfl (lv_at hl 1 rfl) ?_
          refine lv_iconst (v := 0) hx hb dX7_step_41 (by decide) ?_
          refine va_put (D := (dC, dI)) (ci := 5) (v := .int (0 : Int32)) (ty := .int) (C := RX7) (T := TX7) (N := 18) hx hb hts zin_X7 tyX7 tyX7_ok nmX7 hown hK hP hD hS 0 rfl rfl 17 (by decide) (hts _ (zin__r4 (.fieldLink RX7 75 "ReckonBenchModel" "status" "I") (List.mem_of_getElem? (i := 13) rfl))) (fun _ h9 => h9) rfl (by decide +kernel) rfl rfl (Nat.le_of_ble_eq_true rfl) dX7_step_42 (fun H locs hP hD hS => ?_)
          obtain ⟨S_14, e_S_14⟩ : ∃ z : MSt, z = (mset_s S (0 : Int32)) := ⟨_, rfl⟩
          have hP : va_P (dC, dI) vwCl (mWs o r cI cJ S_14) H := by rw [e_S_14]; exact hP
          have hD : va_D A (mWs o r cI cJ S_14) := by rw [e_S_14]; exact hD
          have hw : mH dC dI o r cI cJ S_14 s H := ⟨hP, hK⟩
          have hm := mA_of hts hw
          have hI : mInv S_14 := by rw [e_S_14]; exact hI
          have hL : mPl S_14 x1 x2 := by rw [e_S_14]; exact hL
          have hf : f_X7_step S x1 x2 x3 = (f_X7_step_9 S_14 x1 x2 x3) := hf.trans (congrArg (fun z => (f_X7_step_9 z x1 x2 x3)) e_S_14.symm)
          refine lv_aload_n hx hb dX7_step_45 rfl (lv_at hl 1 rfl) ?_
          refine va_get (D := (dC, dI)) (ci := 5) (v := .ref (r 8)) (C := RX7) (T := TX7) (N := 18) hx hb hts zin_X7 hown hK hP 0 rfl rfl 8 (by decide) (hts _ (zin__r3 (.fieldLink RX7 51 "ReckonBenchModel" "kinds" "[I") (List.mem_of_getElem? (i := 2) rfl))) (fun _ h9 => h9) rfl dX7_step_46 ?_
          refine lv_iload_n hx hb dX7_step_49 rfl (lv_at hl 2 rfl) ?_
          refine va_iald (f := fun j => nI (mk S_14 j)) hx hb hK hP 9 0 rfl rfl (mRow.in2 hI (mPl.row hL)) dX7_step_50 ?_
          refine lv_istore (lv' := [(5, .int (nI (mk S_14 x1.toNatClampNeg))), (4, .int v4_1), (0, .ref o), (1, .int x1), (2, .int x2), (3, .int x3)]) hx hb dX7_step_51 hl (by decide) rfl (fun ls hl => ?_)
          refine lv_aload_n hx hb dX7_step_53 rfl (lv_at hl 2 rfl) ?_
          refine lv_iload_n hx hb dX7_step_54 rfl (lv_at hl 3 rfl) ?_
          refine lv_iload_n hx hb dX7_step_55 rfl (lv_at hl 4 rfl) ?_
          refine vp_callSl (va_Run.run (va_runV (As := [.int x1, .int x2]) (rest := []) ⟨hx, hb, hml, hown, hts⟩ (c_X7_at l dC dI o r cI cJ S_14 x1 x2 (mRow.in0 hI (mPl.row hL)) (mPl.at hI hL)) (cwV 2 hts (gV iX7_at (zin__r11 (.methodLink RX7 155 yX7_at) (List.mem_of_getElem? (i := 2) rfl))) rfl rfl rfl (by decide +kernel) ⟨Nat.le_of_ble_eq_true rfl, Nat.le_of_ble_eq_true rfl⟩) ⟨fun a U g mk q => ⟨q.1, mW_bl q.2⟩, (mW_rv hw), fun U hU hW => ⟨rfl, mW_mv hw hU hW⟩⟩ rfl rfl hl.1 rfl (lv_room (Nat.le_of_ble_eq_true rfl)) dX7_step_56 ⟨Nat.zero_le _, Nat.zero_le _⟩)) (fun r_56 hr_56 => ?_)
          subst hr_56
          refine lv_topl (fun v6_15 e_v6_15 => ?_)
          have hf : f_X7_step S x1 x2 x3 = (f_X7_step_8 S_14 x1 v6_15 x3 x2) := hf.trans (congrArg (fun z => (f_X7_step_8 S_14 x1 z x3 x2)) e_v6_15.symm)
          refine lv_lstore (lv' := [(6, .long v6_15), (5, .int (nI (mk S_14 x1.toNatClampNeg))), (4, .int v4_1), (0, .ref o), (1, .int x1), (2, .int x2), (3, .int x3)]) hx hb dX7_step_59 hl (by decide) rfl (fun ls hl => ?_)
          refine lv_aload_n hx hb dX7_step_61 rfl (lv_at hl 3 rfl) ?_
          refine lv_iload hx hb dX7_step_62 (lv_at hl 1 rfl) ?_
          refine lv_lload hx hb dX7_step_64 (lv_at hl 0 rfl) ?_
          refine vp_callSi (va_Run.run (va_runV (As := [.int (nI (mk S_14 x1.toNatClampNeg)), .long v6_15]) (rest := []) ⟨hx, hb, hml, hown, hts⟩ (c_X7_none l o r (mk S_14 x1.toNatClampNeg) (mRow.k hI (mPl.row hL)) v6_15) (cwV 2 hts (gV iX7_none (zin__r7 (.methodLink RX7 98 yX7_none) (List.mem_of_getElem? (i := 17) rfl))) rfl rfl rfl (by decide +kernel) ⟨Nat.le_of_ble_eq_true rfl, Nat.le_of_ble_eq_true rfl⟩) ⟨fun a U g mk q => ⟨q.1, mU_bl q.2⟩, (mW_rv hw), fun U hU hW => ⟨rfl, mU_mvH hm hU hW⟩⟩ rfl rfl hl.1 rfl (lv_room (Nat.le_of_ble_eq_true rfl)) dX7_step_66 ⟨Nat.zero_le _, Nat.zero_le _⟩)) (fun r_66 hr_66 => ?_)
          subst hr_66
          refine lv_if_eq (tgt := 74) hx hb dX7_step_69 (by decide) (fun c_69 => ?_) (fun c_69 => ?_)
          · have hf : f_X7_step S x1 x2 x3 = (f_X7_step_7 (f_X7_rank (mk S_14 x1.toNatClampNeg) v6_15) x3 S_14 x1 x2) := hf.trans (if_pos c_69)
            refine lv_aload_n hx hb dX7_step_74 rfl (lv_at hl 3 rfl) ?_
            refine lv_iload hx hb dX7_step_75 (lv_at hl 1 rfl) ?_
            refine lv_lload hx hb dX7_step_77 (lv_at hl 0 rfl) ?_
            refine vp_callSl (va_Run.run (va_runV (As := [.int (nI (mk S_14 x1.toNatClampNeg)), .long v6_15]) (rest := []) ⟨hx, hb, hml, hown, hts⟩ (c_X7_rank l o r (mk S_14 x1.toNatClampNeg) (mRow.k hI (mPl.row hL)) v6_15) (cwV 2 hts (gV iX7_rank (zin__r14 (.methodLink RX7 133 yX7_rank) (List.mem_of_getElem? (i := 11) rfl))) rfl rfl rfl (by decide +kernel) ⟨Nat.le_of_ble_eq_true rfl, Nat.le_of_ble_eq_true rfl⟩) ⟨fun a U g mk q => ⟨q.1, mU_bl q.2⟩, (mW_rv hw), fun U hU hW => ⟨rfl, mU_mvH hm hU hW⟩⟩ rfl rfl hl.1 rfl (lv_room (Nat.le_of_ble_eq_true rfl)) dX7_step_79 ⟨Nat.zero_le _, Nat.zero_le _⟩)) (fun r_79 hr_79 => ?_)
            subst hr_79
            refine lv_topl (fun v8_16 e_v8_16 => ?_)
            have hf : f_X7_step S x1 x2 x3 = (f_X7_step_7 v8_16 x3 S_14 x1 x2) := hf.trans (congrArg (fun z => (f_X7_step_7 z x3 S_14 x1 x2)) e_v8_16.symm)
            refine lv_lstore (lv' := [(8, .long v8_16), (6, .long v6_15), (5, .int (nI (mk S_14 x1.toNatClampNeg))), (4, .int v4_1), (0, .ref o), (1, .int x1), (2, .int x2), (3, .int x3)]) hx hb dX7_step_82 hl (by decide) rfl (fun ls hl => ?_)
            refine lv_lload hx hb dX7_step_84 (lv_at hl 0 rfl) ?_
            refine lv_iload_n hx hb dX7_step_86 rfl (lv_at hl 7 rfl) ?_
            refine lv_i2l (v := ((x3).toInt64)) hx hb dX7_step_87 rfl ?_
            refine lv_ladd hx hb dX7_step_88 ?_
            refine lv_topl (fun v10_17 e_v10_17 => ?_)
            have hf : f_X7_step S x1 x2 x3 = (f_X7_step_6 v10_17 S_14 x1 v8_16 x2) := hf.trans (congrArg (fun z => (f_X7_step_6 z S_14 x1 v8_16 x2)) e_v10_17.symm)
            refine lv_lstore (lv' := [(10, .long v10_17), (8, .long v8_16), (6, .long v6_15), (5, .int (nI (mk S_14 x1.toNatClampNeg))), (4, .int v4_1), (0, .ref o), (1, .int x1), (2, .int x2), (3, .int x3)]) hx hb dX7_step_89 hl (by decide) rfl (fun ls hl => ?_)
            refine lv_lload hx hb dX7_step_91 (lv_at hl 0 rfl) ?_
            refine lv_aload_n hx hb dX7_step_93 rfl (lv_at hl 5 rfl) ?_
            refine va_get (D := (dC, dI)) (ci := 5) (v := .ref (r 4)) (C := RX7) (T := TX7) (N := 18) hx hb hts zin_X7 hown hK hP 0 rfl rfl 4 (by decide) (hts _ (zin__r2 (.fieldLink RX7 31 "ReckonBenchModel" "INFINITE" "[J") (List.mem_of_getElem? (i := 18) rfl))) (fun _ h9 => h9) rfl dX7_step_94 ?_
            refine lv_iload hx hb dX7_step_97 (lv_at hl 3 rfl) ?_
            refine va_lald (f := kinf) hx hb hK hP 5 1 rfl rfl (kin (mRow.k hI (mPl.row hL))) dX7_step_99 ?_
            rw [kcl (mRow.k hI (mPl.row hL))]
            refine W.lcmp hx hb dX7_step_100 ?_
            refine W_cut (α := Int64) (pcJ := 113) (nL := 12) (fun v => f_X7_step S x1 x2 x3 = (f_X7_step_5 S_14 x1 v v8_16 x2)) (fun v => []) (fun v => [(0, .ref o), (1, .int x1), (2, .int x2), (5, .int (nI (mk S_14 x1.toNatClampNeg))), (8, .long v8_16), (10, .long v)]) (fun v10_18 ls hf hl => ?_) (fun K_113 => ?_)
            · have hf : f_X7_step S x1 x2 x3 = (f_X7_step_5 S_14 x1 v10_18 v8_16 x2) := hf
              have hl : lv_has ls 12 [(0, .ref o), (1, .int x1), (2, .int x2), (5, .int (nI (mk S_14 x1.toNatClampNeg))), (8, .long v8_16), (10, .long v10_18)] := hl
              refine lv_lload hx hb dX7_step_113 (lv_at hl 5 rfl) ?_
              refine lv_aload_n hx hb dX7_step_115 rfl (lv_at hl 0 rfl) ?_
              refine va_get (D := (dC, dI)) (ci := 5) (v := .ref (r 4)) (C := RX7) (T := TX7) (N := 18) hx hb hts zin_X7 hown hK hP 0 rfl rfl 4 (by decide) (hts _ (zin__r2 (.fieldLink RX7 31 "ReckonBenchModel" "INFINITE" "[J") (List.mem_of_getElem? (i := 18) rfl))) (fun _ h9 => h9) rfl dX7_step_116 ?_
              refine lv_iload hx hb dX7_step_119 (lv_at hl 3 rfl) ?_
              refine va_lald (f := kinf) hx hb hK hP 5 1 rfl rfl (kin (mRow.k hI (mPl.row hL))) dX7_step_121 ?_
              rw [kcl (mRow.k hI (mPl.row hL))]
              refine lv_lneg hx hb dX7_step_122 ?_
              refine W.lcmp hx hb dX7_step_123 ?_
              refine W_cut (α := Int64) (pcJ := 137) (nL := 12) (fun v => f_X7_step S x1 x2 x3 = (f_X7_step_4 v v8_16 S_14 x1 x2)) (fun v => []) (fun v => [(0, .ref o), (1, .int x1), (2, .int x2), (5, .int (nI (mk S_14 x1.toNatClampNeg))), (8, .long v8_16), (10, .long v)]) (fun v10_19 ls hf hl => ?_) (fun K_137 => ?_)
              · have hf : f_X7_step S x1 x2 x3 = (f_X7_step_4 v10_19 v8_16 S_14 x1 x2) := hf
                have hl : lv_has ls 12 [(0, .ref o), (1, .int x1), (2, .int x2), (5, .int (nI (mk S_14 x1.toNatClampNeg))), (8, .long v8_16), (10, .long v10_19)] := hl
                refine lv_lload hx hb dX7_step_137 (lv_at hl 5 rfl) ?_
                refine lv_lload hx hb dX7_step_139 (lv_at hl 4 rfl) ?_
                refine W.lcmp hx hb dX7_step_141 ?_
                refine lv_if_ne (tgt := 147) hx hb dX7_step_142 (by decide) (fun c_142 => ?_) (fun c_142 => ?_)
                · have c_142 : ¬ (v10_19 = v8_16) := fun h9 => c_142 ((lg_cmp_eq v10_19 v8_16).mpr h9)
                  have hf : f_X7_step S x1 x2 x3 = (f_X7_step_3 v10_19 v8_16 S_14 x1 x2) := hf.trans (if_neg c_142)
                  refine lv_aload_n hx hb dX7_step_147 rfl (lv_at hl 0 rfl) ?_
                  refine va_get (D := (dC, dI)) (ci := 5) (v := .ref (r 9)) (C := RX7) (T := TX7) (N := 18) hx hb hts zin_X7 hown hK hP 0 rfl rfl 9 (by decide) (hts _ (zin__r3 (.fieldLink RX7 54 "ReckonBenchModel" "bits" "[J") (List.mem_of_getElem? (i := 3) rfl))) (fun _ h9 => h9) rfl dX7_step_148 ?_
                  refine lv_aload_n hx hb dX7_step_151 rfl (lv_at hl 0 rfl) ?_
                  refine va_get (D := (dC, dI)) (ci := 5) (v := .ref (r 7)) (C := RX7) (T := TX7) (N := 18) hx hb hts zin_X7 hown hK hP 0 rfl rfl 7 (by decide) (hts _ (zin__r3 (.fieldLink RX7 48 "ReckonBenchModel" "first" "[I") (List.mem_of_getElem? (i := 1) rfl))) (fun _ h9 => h9) rfl dX7_step_152 ?_
                  refine lv_iload_n hx hb dX7_step_155 rfl (lv_at hl 1 rfl) ?_
                  refine va_iald (f := fun j => nI (mf S_14 j)) hx hb hK hP 8 0 rfl rfl (mRow.in0 hI (mPl.row hL)) dX7_step_156 ?_
                  refine lv_iload_n hx hb dX7_step_157 rfl (lv_at hl 2 rfl) ?_
                  refine lv_iadd hx hb dX7_step_158 ?_
                  refine lv_aload_n hx hb dX7_step_159 rfl (lv_at hl 0 rfl) ?_
                  refine lv_iload hx hb dX7_step_160 (lv_at hl 3 rfl) ?_
                  refine lv_lload hx hb dX7_step_162 (lv_at hl 5 rfl) ?_
                  refine lv_lload hx hb dX7_step_164 (lv_at hl 5 rfl) ?_
                  refine lv_lload hx hb dX7_step_166 (lv_at hl 4 rfl) ?_
                  refine W.lcmp hx hb dX7_step_168 ?_
                  refine W_cut (α := Int32) (pcJ := 177) (nL := 12) (fun v => f_X7_step S x1 x2 x3 = (f_X7_step_2 v10_19 v8_16 S_14 x1 x2 v)) (fun v => [.int v, .long v10_19, .int (nI (mk S_14 x1.toNatClampNeg)), .ref o, .int ((nI (mf S_14 x1.toNatClampNeg)) + x2), .ref (r 9)]) (fun v => [(8, .long v8_16), (10, .long v10_19)]) (fun w_20 ls hf hl => ?_) (fun K_177 => ?_)
                  · have hf : f_X7_step S x1 x2 x3 = (f_X7_step_1 v10_19 v8_16 (mset_b S_14 (vp_updL (mb S_14) ((nI (mf S_14 x1.toNatClampNeg)) + x2).toNatClampNeg (f_X7_ofRank (mk S_14 x1.toNatClampNeg) v10_19 w_20)))) := hf
                    have hl : lv_has ls 12 [(8, .long v8_16), (10, .long v10_19)] := hl
                    refine vp_callSl (va_Run.run (va_runV (As := [.int (nI (mk S_14 x1.toNatClampNeg)), .long v10_19, .int w_20]) (rest := [.int ((nI (mf S_14 x1.toNatClampNeg)) + x2), .ref (r 9)]) ⟨hx, hb, hml, hown, hts⟩ (c_X7_ofRank l o r (mk S_14 x1.toNatClampNeg) (mRow.k hI (mPl.row hL)) v10_19 w_20) (cwV 3 hts (gV iX7_ofRank (zin__r23 (.methodLink RX7 136 yX7_ofRank) (List.mem_of_getElem? (i := 3) rfl))) rfl rfl rfl (by decide +kernel) ⟨Nat.le_of_ble_eq_true rfl, Nat.le_of_ble_eq_true rfl⟩) ⟨fun a U g mk q => ⟨q.1, mU_bl q.2⟩, (mW_rv hw), fun U hU hW => ⟨rfl, mU_mvH hm hU hW⟩⟩ rfl rfl hl.1 rfl (lv_room (Nat.le_of_ble_eq_true rfl)) dX7_step_177 ⟨Nat.zero_le _, Nat.zero_le _⟩)) (fun r_177 hr_177 => ?_)
                    subst hr_177
                    refine va_last (f := mb S_14) hx hb hK hP hD hS 10 1 rfl rfl (mPl.at hI hL) dX7_step_180 (fun H locs hP hD hS => ?_)
                    obtain ⟨S_21, e_S_21⟩ : ∃ z : MSt, z = (mset_b S_14 (vp_updL (mb S_14) ((nI (mf S_14 x1.toNatClampNeg)) + x2).toNatClampNeg (f_X7_ofRank (mk S_14 x1.toNatClampNeg) v10_19 w_20))) := ⟨_, rfl⟩
                    have hP : va_P (dC, dI) vwCl (mWs o r cI cJ S_21) H := by rw [e_S_21]; exact hP
                    have hD : va_D A (mWs o r cI cJ S_21) := by rw [e_S_21]; exact hD
                    have hw : mH dC dI o r cI cJ S_21 s H := ⟨hP, hK⟩
                    have hm := mA_of hts hw
                    have hL : mPl S_21 x1 x2 := by rw [e_S_21]; exact hL
                    have hf : f_X7_step S x1 x2 x3 = (f_X7_step_1 v10_19 v8_16 S_21) := hf.trans (congrArg (fun z => (f_X7_step_1 v10_19 v8_16 z)) e_S_21.symm)
                    refine lv_lload hx hb dX7_step_181 (lv_at hl 1 rfl) ?_
                    refine lv_lload hx hb dX7_step_183 (lv_at hl 0 rfl) ?_
                    refine W.lcmp hx hb dX7_step_185 ?_
                    refine lv_if_le (tgt := 197) hx hb dX7_step_186 (by decide) (fun c_186 => ?_) (fun c_186 => ?_)
                    · have c_186 : v10_19 ≤ v8_16 := (lg_cmp_le v10_19 v8_16).mp c_186
                      have hf : f_X7_step S x1 x2 x3 = ((((v8_16 - v10_19)).toInt32), S_21) := hf.trans (if_pos c_186)
                      refine lv_lload hx hb dX7_step_197 (lv_at hl 0 rfl) ?_
                      refine lv_lload hx hb dX7_step_199 (lv_at hl 1 rfl) ?_
                      refine lv_lsub hx hb dX7_step_201 ?_
                      refine lv_l2i (v := (((v8_16 - v10_19)).toInt32)) hx hb dX7_step_202 rfl ?_
                      exact W.iret hx hb hr (fun t ht hW => ⟨⟨_, S_21, rfl, hf.symm, by rw [ht]; exact hP, va_K.moved hW.alike hK, hD⟩, hS.F ht⟩) hS.2.2 dX7_step_203
                    · have c_186 : ¬ (v10_19 ≤ v8_16) := fun h9 => c_186 ((lg_cmp_le v10_19 v8_16).mpr h9)
                      have hf : f_X7_step S x1 x2 x3 = ((((v10_19 - v8_16)).toInt32), S_21) := hf.trans (if_neg c_186)
                      refine lv_lload hx hb dX7_step_189 (lv_at hl 1 rfl) ?_
                      refine lv_lload hx hb dX7_step_191 (lv_at hl 0 rfl) ?_
                      refine lv_lsub hx hb dX7_step_193 ?_
                      refine lv_goto (tgt := 202) hx hb dX7_step_194 (by decide) ?_
                      refine lv_l2i (v := (((v10_19 - v8_16)).toInt32)) hx hb dX7_step_202 rfl ?_
                      exact W.iret hx hb hr (fun t ht hW => ⟨⟨_, S_21, rfl, hf.symm, by rw [ht]; exact hP, va_K.moved hW.alike hK, hD⟩, hS.F ht⟩) hS.2.2 dX7_step_203
                  refine lv_if_le (tgt := 176) hx hb dX7_step_169 (by decide) (fun c_169 => ?_) (fun c_169 => ?_)
                  · have c_169 : v10_19 ≤ v8_16 := (lg_cmp_le v10_19 v8_16).mp c_169
                    have hf : f_X7_step S x1 x2 x3 = (f_X7_step_2 v10_19 v8_16 S_14 x1 x2 (0 : Int32)) := hf.trans (if_pos c_169)
                    refine lv_iconst (v := 0) hx hb dX7_step_176 (by decide) ?_
                    exact K_177 (0 : Int32) ls hf (lv_sub hl [4, 5] rfl)
                  · have c_169 : ¬ (v10_19 ≤ v8_16) := fun h9 => c_169 ((lg_cmp_le v10_19 v8_16).mpr h9)
                    have hf : f_X7_step S x1 x2 x3 = (f_X7_step_2 v10_19 v8_16 S_14 x1 x2 (1 : Int32)) := hf.trans (if_neg c_169)
                    refine lv_iconst (v := 1) hx hb dX7_step_172 (by decide) ?_
                    refine lv_goto (tgt := 177) hx hb dX7_step_173 (by decide) ?_
                    exact K_177 (1 : Int32) ls hf (lv_sub hl [4, 5] rfl)
                · have c_142 : v10_19 = v8_16 := (lg_cmp_eq v10_19 v8_16).mp c_142
                  have hf : f_X7_step S x1 x2 x3 = ((0 : Int32), S_14) := hf.trans (if_pos c_142)
                  refine lv_iconst (v := 0) hx hb dX7_step_145 (by decide) ?_
                  exact W.iret hx hb hr (fun t ht hW => ⟨⟨_, S_14, rfl, hf.symm, by rw [ht]; exact hP, va_K.moved hW.alike hK, hD⟩, hS.F ht⟩) hS.2.2 dX7_step_146
              refine lv_if_ge (tgt := 137) hx hb dX7_step_124 (by decide) (fun c_124 => ?_) (fun c_124 => ?_)
              · have c_124 : (-(kinf (mk S_14 x1.toNatClampNeg))) ≤ v10_18 := (lg_cmp_ge v10_18 (-(kinf (mk S_14 x1.toNatClampNeg)))).mp c_124
                have hf : f_X7_step S x1 x2 x3 = (f_X7_step_4 v10_18 v8_16 S_14 x1 x2) := hf.trans (if_pos c_124)
                exact K_137 v10_18 ls hf (lv_sub hl [0, 1, 2, 3, 4, 5] rfl)
              · have c_124 : ¬ ((-(kinf (mk S_14 x1.toNatClampNeg))) ≤ v10_18) := fun h9 => c_124 ((lg_cmp_ge v10_18 (-(kinf (mk S_14 x1.toNatClampNeg)))).mpr h9)
                have hf : f_X7_step S x1 x2 x3 = (f_X7_step_4 (-(kinf (mk S_14 x1.toNatClampNeg))) v8_16 S_14 x1 x2) := hf.trans (if_neg c_124)
                refine lv_aload_n hx hb dX7_step_127 rfl (lv_at hl 0 rfl) ?_
                refine va_get (D := (dC, dI)) (ci := 5) (v := .ref (r 4)) (C := RX7) (T := TX7) (N := 18) hx hb hts zin_X7 hown hK hP 0 rfl rfl 4 (by decide) (hts _ (zin__r2 (.fieldLink RX7 31 "ReckonBenchModel" "INFINITE" "[J") (List.mem_of_getElem? (i := 18) rfl))) (fun _ h9 => h9) rfl dX7_step_128 ?_
                refine lv_iload hx hb dX7_step_131 (lv_at hl 3 rfl) ?_
                refine va_lald (f := kinf) hx hb hK hP 5 1 rfl rfl (kin (mRow.k hI (mPl.row hL))) dX7_step_133 ?_
                rw [kcl (mRow.k hI (mPl.row hL))]
                refine lv_lneg hx hb dX7_step_134 ?_
                refine lv_topl (fun v10_22 e_v10_22 => ?_)
                have hf : f_X7_step S x1 x2 x3 = (f_X7_step_4 v10_22 v8_16 S_14 x1 x2) := hf.trans (congrArg (fun z => (f_X7_step_4 z v8_16 S_14 x1 x2)) e_v10_22.symm)
                refine lv_lstore (lv' := [(10, .long v10_22), (0, .ref o), (1, .int x1), (2, .int x2), (5, .int (nI (mk S_14 x1.toNatClampNeg))), (8, .long v8_16)]) hx hb dX7_step_135 hl (by decide) rfl (fun ls hl => ?_)
                exact K_137 v10_22 ls hf (lv_sub hl [1, 2, 3, 4, 5, 0] rfl)
            refine lv_if_le (tgt := 113) hx hb dX7_step_101 (by decide) (fun c_101 => ?_) (fun c_101 => ?_)
            · have c_101 : v10_17 ≤ (kinf (mk S_14 x1.toNatClampNeg)) := (lg_cmp_le v10_17 (kinf (mk S_14 x1.toNatClampNeg))).mp c_101
              have hf : f_X7_step S x1 x2 x3 = (f_X7_step_5 S_14 x1 v10_17 v8_16 x2) := hf.trans (if_pos c_101)
              exact K_113 v10_17 ls hf (lv_sub hl [5, 6, 7, 3, 1, 0] rfl)
            · have c_101 : ¬ (v10_17 ≤ (kinf (mk S_14 x1.toNatClampNeg))) := fun h9 => c_101 ((lg_cmp_le v10_17 (kinf (mk S_14 x1.toNatClampNeg))).mpr h9)
              have hf : f_X7_step S x1 x2 x3 = (f_X7_step_5 S_14 x1 (kinf (mk S_14 x1.toNatClampNeg)) v8_16 x2) := hf.trans (if_neg c_101)
              refine lv_aload_n hx hb dX7_step_104 rfl (lv_at hl 5 rfl) ?_
              refine va_get (D := (dC, dI)) (ci := 5) (v := .ref (r 4)) (C := RX7) (T := TX7) (N := 18) hx hb hts zin_X7 hown hK hP 0 rfl rfl 4 (by decide) (hts _ (zin__r2 (.fieldLink RX7 31 "ReckonBenchModel" "INFINITE" "[J") (List.mem_of_getElem? (i := 18) rfl))) (fun _ h9 => h9) rfl dX7_step_105 ?_
              refine lv_iload hx hb dX7_step_108 (lv_at hl 3 rfl) ?_
              refine va_lald (f := kinf) hx hb hK hP 5 1 rfl rfl (kin (mRow.k hI (mPl.row hL))) dX7_step_110 ?_
              rw [kcl (mRow.k hI (mPl.row hL))]
              refine lv_topl (fun v10_23 e_v10_23 => ?_)
              have hf : f_X7_step S x1 x2 x3 = (f_X7_step_5 S_14 x1 v10_23 v8_16 x2) := hf.trans (congrArg (fun z => (f_X7_step_5 S_14 x1 z v8_16 x2)) e_v10_23.symm)
              refine lv_lstore (lv' := [(10, .long v10_23), (8, .long v8_16), (6, .long v6_15), (5, .int (nI (mk S_14 x1.toNatClampNeg))), (4, .int v4_1), (0, .ref o), (1, .int x1), (2, .int x2), (3, .int x3)]) hx hb dX7_step_111 hl (by decide) rfl (fun ls hl => ?_)
              exact K_113 v10_23 ls hf (lv_sub hl [5, 6, 7, 3, 1, 0] rfl)
          · have hf : f_X7_step S x1 x2 x3 = ((0 : Int32), S_14) := hf.trans (if_neg c_69)
            refine lv_iconst (v := 0) hx hb dX7_step_72 (by decide) ?_
            exact W.iret hx hb hr (fun t ht hW => ⟨⟨_, S_14, rfl, hf.symm, by rw [ht]; exact hP, va_K.moved hW.alike hK, hD⟩, hS.F ht⟩) hS.2.2 dX7_step_73
        · have hf : f_X7_step S x1 x2 x3 = (f_X7_step_10 (f_X7_no S v4_1)) := hf.trans (if_neg c_30)
          refine lv_aload_n hx hb dX7_step_33 rfl (lv_at hl 1 rfl) ?_
          refine lv_iload hx hb dX7_step_34 (lv_at hl 0 rfl) ?_
          have hFc := va_free (wc := mWs o r cI cJ S) hD hS hA [0, 1, 2, 3, 4, 5, 6, 7, 8, 9, 10, 11, 12, 13, 14, 15, 16] rfl
          refine va_calli (va_runV (As := [.int v4_1]) (rest := []) ⟨hx, hb, hml, hown, hts⟩ (c_X7_no l dC dI o r cI cJ s.heap.size S v4_1) (cwV 1 hts (gV iX7_no (zin__r4 (.methodLink RX7 139 yX7_no) (List.mem_of_getElem? (i := 14) rfl))) rfl rfl rfl (by decide +kernel) ⟨Nat.le_of_ble_eq_true rfl, Nat.le_of_ble_eq_true rfl⟩) ⟨fun a U g mk q => ⟨q.1, mB_bl q.2⟩, mW_rv hw, fun U hU hW => ⟨rfl, mB_mv hw hD hU hW⟩⟩ rfl rfl hl.1 rfl (lv_room (Nat.le_of_ble_eq_true rfl)) dX7_step_36 ⟨Nat.zero_le _, Nat.zero_le _⟩) hS (fun q _ h => hFc q h) hFc (fun r_36 S_24 t H1 locs ht hvm hw1 hB hz1 hk1 hS => ?_)
          obtain ⟨hP, -, hD1⟩ := hB
          rw [ht] at hP
          have hD := hD1.weaken (fun k q _ h => hFc q.1 h)
          generalize H1 = H at hP hS ⊢
          have hw : mH dC dI o r cI cJ S_24 s H := ⟨hP, hK⟩
          have hm := mA_of hts hw
          have hf : f_X7_step S x1 x2 x3 = (r_36, S_24) := hf.trans (congrArg (fun z => (f_X7_step_10 z)) hw1.symm)
          exact W.iret hx hb hr (fun t ht hW => ⟨⟨_, S_24, rfl, hf.symm, by rw [ht]; exact hP, va_K.moved hW.alike hK, hD⟩, hS.F ht⟩) hS.2.2 dX7_step_39
      · have hf : f_X7_step S x1 x2 x3 = (f_X7_step_12 S) := hf.trans (if_neg c_22)
        exact K_25 () ls hf (lv_sub hl [1, 2, 3, 4] rfl)
def f_X7_bounds_1 (S_1 : MSt) (x1 : Int32) (x2 : Int32) (x4 : Int64) : MSt := (mset_b S_1 (vp_updL (mb S_1) (((nI (mf S_1 x1.toNatClampNeg)) + ((2 : Int32) * x2)) + (1 : Int32)).toNatClampNeg x4))
def f_X7_bounds (S : MSt) (x1 : Int32) (x2 : Int32) (x3 : Int64) (x4 : Int64) : MSt := (f_X7_bounds_1 (mset_b S (vp_updL (mb S) ((nI (mf S x1.toNatClampNeg)) + ((2 : Int32) * x2)).toNatClampNeg x3)) x1 x2 x4)
def zX7_bounds : List Cond := .code yX7_bounds cX7_bounds 7 none :: zall
theorem iX7_bounds : MWv RX7 yX7_bounds (.code yX7_bounds cX7_bounds 7 none) := ⟨(zin__r30 (.instanceMethod yX7_bounds) (List.mem_of_getElem? (i := 8) rfl)), (zin__r30 (.selects RX7 yX7_bounds yX7_bounds) (List.mem_of_getElem? (i := 9) rfl)), (zin__r1 (.initialized RX7) (List.mem_of_getElem? (i := 5) rfl)), (zin__r30 (.code yX7_bounds cX7_bounds 7 none) (List.mem_of_getElem? (i := 10) rfl))⟩
set_option maxHeartbeats 4000000 in
set_option maxRecDepth 100000 in
theorem c_X7_bounds (l : Launch) (dC : Nat → ClassId) (dI : Nat → Nat → Nat) (o : Nat) (r : Nat → Nat) (cI cJ : ClassId) (sz : Nat) (S : MSt) (x1 : Int32) (x2 : Int32) (x3 : Int64) (x4 : Int64) (hI : mInv S) (hQ : mPair S x1 x2) : Met l yX7_bounds zX7_bounds ({ frames := 0, cells := 0, slots := 0, locals := 0 }) (va_Pc [.ref o, .int x1, .int x2, .long x3, .long x4] (fun U => mB dC dI o r cI cJ sz S U)) (va_Qv (fun S9 => S9 = f_X7_bounds S x1 x2 x3 x4) (mE dC dI o r cI cJ (va_A (mWs o r cI cJ S) sz)) (va_A (mWs o r cI cJ S) sz)) 0 0 (va_A (mWs o r cI cJ S) sz) := by
  refine Met.ofW (cc := cX7_bounds) (maxL := 7) (ret := none) (by decide) rfl ?_
  intro p e s m args below meth c s₁ B hml hv
  obtain ⟨rfl, hsz, hP, hK, hD0⟩ := hv
  have hx := B.exec
  have hb := B.bytes
  have hr := B.returns
  have hts : ∀ w ∈ zall, w.before _ s = true := fun w h => atoms_spec (ws := zX7_bounds) B.pre w (List.mem_cons_of_mem _ h)
  have hown : s.vm.findClass RX7 = some m.cls := findClass_of_methodNamed B.named
  have hlocks := B.notSynchronized
  subst hsz
  have hD := hD0.self (sz := s.heap.size)
  generalize hAe : va_A (mWs o r cI cJ S) s.heap.size = A at hD ⊢
  have hA : ∀ q : Nat, s.heap.size ≤ q → A q := fun q h => by rw [← hAe]; exact Or.inr h
  have hS : va_S A s.heap s.heap [] := va_S.rf
  have hw : mH dC dI o r cI cJ S s s.heap := ⟨hP, hK⟩
  have hm := mA_of hts hw
  have hl := lv_entry ([.ref o, .int x1, .int x2, .long x3, .long x4]) (n := 7) (Nat.le_of_ble_eq_true rfl)
  rw [lg_entry_eq]
  generalize (lg_sl ([.ref o, .int x1, .int x2, .long x3, .long x4]) ++ List.replicate (7 - (lg_sl ([.ref o, .int x1, .int x2, .long x3, .long x4])).length) Slot.unset).toArray = ls at hl ⊢
  have hl : lv_has ls 7 [(0, .ref o), (1, .int x1), (2, .int x2), (3, .long x3), (5, .long x4)] := hl
  have hf : f_X7_bounds S x1 x2 x3 x4 = (f_X7_bounds_1 (mset_b S (vp_updL (mb S) ((nI (mf S x1.toNatClampNeg)) + ((2 : Int32) * x2)).toNatClampNeg x3)) x1 x2 x4) := rfl
  refine lv_aload_n hx hb dX7_bounds_0 rfl (lv_at hl 0 rfl) ?_
  refine va_get (D := (dC, dI)) (ci := 5) (v := .ref (r 9)) (C := RX7) (T := TX7) (N := 18) hx hb hts zin_X7 hown hK hP 0 rfl rfl 9 (by decide) (hts _ (zin__r3 (.fieldLink RX7 54 "ReckonBenchModel" "bits" "[J") (List.mem_of_getElem? (i := 3) rfl))) (fun _ h9 => h9) rfl dX7_bounds_1 ?_
  refine lv_aload_n hx hb dX7_bounds_4 rfl (lv_at hl 0 rfl) ?_
  refine va_get (D := (dC, dI)) (ci := 5) (v := .ref (r 7)) (C := RX7) (T := TX7) (N := 18) hx hb hts zin_X7 hown hK hP 0 rfl rfl 7 (by decide) (hts _ (zin__r3 (.fieldLink RX7 48 "ReckonBenchModel" "first" "[I") (List.mem_of_getElem? (i := 1) rfl))) (fun _ h9 => h9) rfl dX7_bounds_5 ?_
  refine lv_iload_n hx hb dX7_bounds_8 rfl (lv_at hl 1 rfl) ?_
  have hin9 : vp_in x1 65 := mRow.in0 hI (mPair.row hQ)
  have hin8 : vp_in (nI (mf S x1.toNatClampNeg) + (2 : Int32) * x2 + (1 : Int32)) 4000 := mPair.atH hI hQ
  refine va_iald (f := fun j => nI (mf S j)) hx hb hK hP 8 0 rfl rfl (mRow.in0 hI (mPair.row hQ)) dX7_bounds_9 ?_
  refine lv_iconst (v := 2) hx hb dX7_bounds_10 (by decide) ?_
  refine lv_iload_n hx hb dX7_bounds_11 rfl (lv_at hl 2 rfl) ?_
  refine lv_imul hx hb dX7_bounds_12 ?_
  refine lv_iadd hx hb dX7_bounds_13 ?_
  refine lv_lload_n hx hb dX7_bounds_14 rfl (lv_at hl 3 rfl) ?_
  refine va_last (f := mb S) hx hb hK hP hD hS 10 1 rfl rfl (mPl.at hI (mPair.lo hQ)) dX7_bounds_15 (fun H locs hP hD hS => ?_)
  obtain ⟨S_1, e_S_1⟩ : ∃ z : MSt, z = (mset_b S (vp_updL (mb S) ((nI (mf S x1.toNatClampNeg)) + ((2 : Int32) * x2)).toNatClampNeg x3)) := ⟨_, rfl⟩
  have hP : va_P (dC, dI) vwCl (mWs o r cI cJ S_1) H := by rw [e_S_1]; exact hP
  have hD : va_D A (mWs o r cI cJ S_1) := by rw [e_S_1]; exact hD
  have hw : mH dC dI o r cI cJ S_1 s H := ⟨hP, hK⟩
  have hm := mA_of hts hw
  have hQ : mPair S_1 x1 x2 := by rw [e_S_1]; exact hQ
  have hin8 : vp_in (nI (mf S_1 x1.toNatClampNeg) + (2 : Int32) * x2 + (1 : Int32)) 4000 := by rw [e_S_1]; exact hin8
  have hf : f_X7_bounds S x1 x2 x3 x4 = (f_X7_bounds_1 S_1 x1 x2 x4) := hf.trans (congrArg (fun z => (f_X7_bounds_1 z x1 x2 x4)) e_S_1.symm)
  refine lv_aload_n hx hb dX7_bounds_16 rfl (lv_at hl 0 rfl) ?_
  refine va_get (D := (dC, dI)) (ci := 5) (v := .ref (r 9)) (C := RX7) (T := TX7) (N := 18) hx hb hts zin_X7 hown hK hP 0 rfl rfl 9 (by decide) (hts _ (zin__r3 (.fieldLink RX7 54 "ReckonBenchModel" "bits" "[J") (List.mem_of_getElem? (i := 3) rfl))) (fun _ h9 => h9) rfl dX7_bounds_17 ?_
  refine lv_aload_n hx hb dX7_bounds_20 rfl (lv_at hl 0 rfl) ?_
  refine va_get (D := (dC, dI)) (ci := 5) (v := .ref (r 7)) (C := RX7) (T := TX7) (N := 18) hx hb hts zin_X7 hown hK hP 0 rfl rfl 7 (by decide) (hts _ (zin__r3 (.fieldLink RX7 48 "ReckonBenchModel" "first" "[I") (List.mem_of_getElem? (i := 1) rfl))) (fun _ h9 => h9) rfl dX7_bounds_21 ?_
  refine lv_iload_n hx hb dX7_bounds_24 rfl (lv_at hl 1 rfl) ?_
  refine va_iald (f := fun j => nI (mf S_1 j)) hx hb hK hP 8 0 rfl rfl hin9 dX7_bounds_25 ?_
  refine lv_iconst (v := 2) hx hb dX7_bounds_26 (by decide) ?_
  refine lv_iload_n hx hb dX7_bounds_27 rfl (lv_at hl 2 rfl) ?_
  refine lv_imul hx hb dX7_bounds_28 ?_
  refine lv_iadd hx hb dX7_bounds_29 ?_
  refine lv_iconst (v := 1) hx hb dX7_bounds_30 (by decide) ?_
  refine lv_iadd hx hb dX7_bounds_31 ?_
  refine lv_lload hx hb dX7_bounds_32 (lv_at hl 4 rfl) ?_
  refine va_last (f := mb S_1) hx hb hK hP hD hS 10 1 rfl rfl hin8 dX7_bounds_34 (fun H locs hP hD hS => ?_)
  obtain ⟨S_2, e_S_2⟩ : ∃ z : MSt, z = (mset_b S_1 (vp_updL (mb S_1) (((nI (mf S_1 x1.toNatClampNeg)) + ((2 : Int32) * x2)) + (1 : Int32)).toNatClampNeg x4)) := ⟨_, rfl⟩
  have hP : va_P (dC, dI) vwCl (mWs o r cI cJ S_2) H := by rw [e_S_2]; exact hP
  have hD : va_D A (mWs o r cI cJ S_2) := by rw [e_S_2]; exact hD
  have hw : mH dC dI o r cI cJ S_2 s H := ⟨hP, hK⟩
  have hm := mA_of hts hw
  have hQ : mPair S_2 x1 x2 := by rw [e_S_2]; exact hQ
  have hin8 : vp_in (nI (mf S_2 x1.toNatClampNeg) + (2 : Int32) * x2 + (1 : Int32)) 4000 := by rw [e_S_2]; exact hin8
  have hf : f_X7_bounds S x1 x2 x3 x4 = S_2 := hf.trans (congrArg (fun z => z) e_S_2.symm)
  exact W.vret hx hb hr (fun t ht hW => ⟨⟨S_2, rfl, hf.symm, by rw [ht]; exact hP, va_K.moved hW.alike hK, hD⟩, hS.F ht⟩) hS.2.2 dX7_bounds_35
def f_X7_meet_1 (w_1 : Int32) (S_4 : MSt) : Int32 × MSt := if w_1 = 0 then ((0 : Int32), S_4) else ((2 : Int32), S_4)
def f_X7_meet_2 (w_1 : Int32) (S : MSt) (x1 : Int32) (x2 : Int32) (w_2 : Int64) (w_3 : Int64) : Int32 × MSt := (f_X7_meet_1 w_1 (f_X7_bounds S x1 x2 w_2 w_3))
def f_X7_meet_3 (w_1 : Int32) (S : MSt) (x1 : Int32) (x2 : Int32) (w_2 : Int64) (x4 : Int64) : Int32 × MSt := if w_1 = 0 then (f_X7_meet_2 w_1 S x1 x2 w_2 x4) else (f_X7_meet_2 w_1 S x1 x2 w_2 (knan (mk S x1.toNatClampNeg)))
def f_X7_meet_4 (w_1 : Int32) (S : MSt) (x1 : Int32) (x2 : Int32) (x3 : Int64) (x4 : Int64) : Int32 × MSt := if w_1 = 0 then (f_X7_meet_3 w_1 S x1 x2 x3 x4) else (f_X7_meet_3 w_1 S x1 x2 (knan (mk S x1.toNatClampNeg)) x4)
def f_X7_meet_5 (S : MSt) (x1 : Int32) (x3 : Int64) (x4 : Int64) (x2 : Int32) : Int32 × MSt := if (f_X7_rank (mk S x1.toNatClampNeg) x3) ≤ (f_X7_rank (mk S x1.toNatClampNeg) x4) then (f_X7_meet_4 (0 : Int32) S x1 x2 x3 x4) else (f_X7_meet_4 (1 : Int32) S x1 x2 x3 x4)
def f_X7_meet (S : MSt) (x1 : Int32) (x2 : Int32) (x3 : Int64) (x4 : Int64) : Int32 × MSt := (f_X7_meet_5 S x1 x3 x4 x2)
def zX7_meet : List Cond := .code yX7_meet cX7_meet 9 (some .int) :: zall
theorem iX7_meet : MWv RX7 yX7_meet (.code yX7_meet cX7_meet 9 (some .int)) := ⟨(zin__r30 (.instanceMethod yX7_meet) (List.mem_of_getElem? (i := 12) rfl)), (zin__r30 (.selects RX7 yX7_meet yX7_meet) (List.mem_of_getElem? (i := 13) rfl)), (zin__r1 (.initialized RX7) (List.mem_of_getElem? (i := 5) rfl)), (zin__r30 (.code yX7_meet cX7_meet 9 (some .int)) (List.mem_of_getElem? (i := 14) rfl))⟩
set_option maxHeartbeats 4000000 in
set_option maxRecDepth 100000 in
theorem c_X7_meet (l : Launch) (dC : Nat → ClassId) (dI : Nat → Nat → Nat) (o : Nat) (r : Nat → Nat) (cI cJ : ClassId) (sz : Nat) (S : MSt) (x1 : Int32) (x2 : Int32) (x3 : Int64) (x4 : Int64) (hI : mInv S) (hQ : mPair S x1 x2) : Met l yX7_meet zX7_meet ({ frames := 2, cells := 0, slots := 0, locals := 46 }) (va_Pc [.ref o, .int x1, .int x2, .long x3, .long x4] (fun U => mB dC dI o r cI cJ sz S U)) (va_Qi (fun r9 S9 => (r9, S9) = f_X7_meet S x1 x2 x3 x4) (mE dC dI o r cI cJ (va_A (mWs o r cI cJ S) sz)) (va_A (mWs o r cI cJ S) sz)) 0 0 (va_A (mWs o r cI cJ S) sz) := by
  refine Met.ofW (cc := cX7_meet) (maxL := 9) (ret := (some .int)) (by decide) rfl ?_
  intro p e s m args below meth c s₁ B hml hv
  obtain ⟨rfl, hsz, hP, hK, hD0⟩ := hv
  have hx := B.exec
  have hb := B.bytes
  have hr := B.returns
  have hts : ∀ w ∈ zall, w.before _ s = true := fun w h => atoms_spec (ws := zX7_meet) B.pre w (List.mem_cons_of_mem _ h)
  have hown : s.vm.findClass RX7 = some m.cls := findClass_of_methodNamed B.named
  have hlocks := B.notSynchronized
  subst hsz
  have hD := hD0.self (sz := s.heap.size)
  generalize hAe : va_A (mWs o r cI cJ S) s.heap.size = A at hD ⊢
  have hA : ∀ q : Nat, s.heap.size ≤ q → A q := fun q h => by rw [← hAe]; exact Or.inr h
  have hS : va_S A s.heap s.heap [] := va_S.rf
  have hw : mH dC dI o r cI cJ S s s.heap := ⟨hP, hK⟩
  have hm := mA_of hts hw
  have hl := lv_entry ([.ref o, .int x1, .int x2, .long x3, .long x4]) (n := 9) (Nat.le_of_ble_eq_true rfl)
  rw [lg_entry_eq]
  generalize (lg_sl ([.ref o, .int x1, .int x2, .long x3, .long x4]) ++ List.replicate (9 - (lg_sl ([.ref o, .int x1, .int x2, .long x3, .long x4])).length) Slot.unset).toArray = ls at hl ⊢
  have hl : lv_has ls 9 [(0, .ref o), (1, .int x1), (2, .int x2), (3, .long x3), (5, .long x4)] := hl
  have hf : f_X7_meet S x1 x2 x3 x4 = (f_X7_meet_5 S x1 x3 x4 x2) := rfl
  refine lv_aload_n hx hb dX7_meet_0 rfl (lv_at hl 0 rfl) ?_
  refine va_get (D := (dC, dI)) (ci := 5) (v := .ref (r 8)) (C := RX7) (T := TX7) (N := 18) hx hb hts zin_X7 hown hK hP 0 rfl rfl 8 (by decide) (hts _ (zin__r3 (.fieldLink RX7 51 "ReckonBenchModel" "kinds" "[I") (List.mem_of_getElem? (i := 2) rfl))) (fun _ h9 => h9) rfl dX7_meet_1 ?_
  refine lv_iload_n hx hb dX7_meet_4 rfl (lv_at hl 1 rfl) ?_
  refine va_iald (f := fun j => nI (mk S j)) hx hb hK hP 9 0 rfl rfl (mRow.in2 hI (mPair.row hQ)) dX7_meet_5 ?_
  refine lv_istore (lv' := [(7, .int (nI (mk S x1.toNatClampNeg))), (0, .ref o), (1, .int x1), (2, .int x2), (3, .long x3), (5, .long x4)]) hx hb dX7_meet_6 hl (by decide) rfl (fun ls hl => ?_)
  refine lv_aload_n hx hb dX7_meet_8 rfl (lv_at hl 1 rfl) ?_
  refine lv_iload hx hb dX7_meet_9 (lv_at hl 0 rfl) ?_
  refine lv_lload_n hx hb dX7_meet_11 rfl (lv_at hl 4 rfl) ?_
  refine vp_callSl (va_Run.run (va_runV (As := [.int (nI (mk S x1.toNatClampNeg)), .long x3]) (rest := []) ⟨hx, hb, hml, hown, hts⟩ (c_X7_rank l o r (mk S x1.toNatClampNeg) (mRow.k hI (mPair.row hQ)) x3) (cwV 2 hts (gV iX7_rank (zin__r14 (.methodLink RX7 133 yX7_rank) (List.mem_of_getElem? (i := 11) rfl))) rfl rfl rfl (by decide +kernel) ⟨Nat.le_of_ble_eq_true rfl, Nat.le_of_ble_eq_true rfl⟩) ⟨fun a U g mk q => ⟨q.1, mU_bl q.2⟩, (mW_rv hw), fun U hU hW => ⟨rfl, mU_mvH hm hU hW⟩⟩ rfl rfl hl.1 rfl (lv_room (Nat.le_of_ble_eq_true rfl)) dX7_meet_12 ⟨Nat.zero_le _, Nat.zero_le _⟩)) (fun r_12 hr_12 => ?_)
  subst hr_12
  refine lv_aload_n hx hb dX7_meet_15 rfl (lv_at hl 1 rfl) ?_
  refine lv_iload hx hb dX7_meet_16 (lv_at hl 0 rfl) ?_
  refine lv_lload hx hb dX7_meet_18 (lv_at hl 5 rfl) ?_
  refine vp_callSl (va_Run.run (va_runV (As := [.int (nI (mk S x1.toNatClampNeg)), .long x4]) (rest := [.long (f_X7_rank (mk S x1.toNatClampNeg) x3)]) ⟨hx, hb, hml, hown, hts⟩ (c_X7_rank l o r (mk S x1.toNatClampNeg) (mRow.k hI (mPair.row hQ)) x4) (cwV 2 hts (gV iX7_rank (zin__r14 (.methodLink RX7 133 yX7_rank) (List.mem_of_getElem? (i := 11) rfl))) rfl rfl rfl (by decide +kernel) ⟨Nat.le_of_ble_eq_true rfl, Nat.le_of_ble_eq_true rfl⟩) ⟨fun a U g mk q => ⟨q.1, mU_bl q.2⟩, (mW_rv hw), fun U hU hW => ⟨rfl, mU_mvH hm hU hW⟩⟩ rfl rfl hl.1 rfl (lv_room (Nat.le_of_ble_eq_true rfl)) dX7_meet_20 ⟨Nat.zero_le _, Nat.zero_le _⟩)) (fun r_20 hr_20 => ?_)
  subst hr_20
  refine W.lcmp hx hb dX7_meet_23 ?_
  refine W_cut (α := Int32) (pcJ := 32) (nL := 9) (fun v => f_X7_meet S x1 x2 x3 x4 = (f_X7_meet_4 v S x1 x2 x3 x4)) (fun v => [.int v]) (fun v => [(0, .ref o), (1, .int x1), (2, .int x2), (3, .long x3), (5, .long x4), (7, .int (nI (mk S x1.toNatClampNeg)))]) (fun w_1 ls hf hl => ?_) (fun K_32 => ?_)
  · have hf : f_X7_meet S x1 x2 x3 x4 = (f_X7_meet_4 w_1 S x1 x2 x3 x4) := hf
    have hl : lv_has ls 9 [(0, .ref o), (1, .int x1), (2, .int x2), (3, .long x3), (5, .long x4), (7, .int (nI (mk S x1.toNatClampNeg)))] := hl
    refine lv_istore (lv' := [(8, .int w_1), (0, .ref o), (1, .int x1), (2, .int x2), (3, .long x3), (5, .long x4), (7, .int (nI (mk S x1.toNatClampNeg)))]) hx hb dX7_meet_32 hl (by decide) rfl (fun ls hl => ?_)
    refine lv_aload_n hx hb dX7_meet_34 rfl (lv_at hl 1 rfl) ?_
    refine lv_iload_n hx hb dX7_meet_35 rfl (lv_at hl 2 rfl) ?_
    refine lv_iload_n hx hb dX7_meet_36 rfl (lv_at hl 3 rfl) ?_
    refine lv_iload hx hb dX7_meet_37 (lv_at hl 0 rfl) ?_
    refine W_cut (α := Int64) (pcJ := 53) (nL := 9) (fun v => f_X7_meet S x1 x2 x3 x4 = (f_X7_meet_3 w_1 S x1 x2 v x4)) (fun v => [.long v, .int x2, .int x1, .ref o]) (fun v => [(0, .ref o), (5, .long x4), (7, .int (nI (mk S x1.toNatClampNeg))), (8, .int w_1)]) (fun w_2 ls hf hl => ?_) (fun K_53 => ?_)
    · have hf : f_X7_meet S x1 x2 x3 x4 = (f_X7_meet_3 w_1 S x1 x2 w_2 x4) := hf
      have hl : lv_has ls 9 [(0, .ref o), (5, .long x4), (7, .int (nI (mk S x1.toNatClampNeg))), (8, .int w_1)] := hl
      refine lv_iload hx hb dX7_meet_53 (lv_at hl 3 rfl) ?_
      refine W_cut (α := Int64) (pcJ := 70) (nL := 9) (fun v => f_X7_meet S x1 x2 x3 x4 = (f_X7_meet_2 w_1 S x1 x2 w_2 v)) (fun v => [.long v, .long w_2, .int x2, .int x1, .ref o]) (fun v => [(8, .int w_1)]) (fun w_3 ls hf hl => ?_) (fun K_70 => ?_)
      · have hf : f_X7_meet S x1 x2 x3 x4 = (f_X7_meet_1 w_1 (f_X7_bounds S x1 x2 w_2 w_3)) := hf
        have hl : lv_has ls 9 [(8, .int w_1)] := hl
        have hFc := va_free (wc := mWs o r cI cJ S) hD hS hA [0, 1, 2, 3, 4, 5, 6, 7, 8, 9, 10, 11, 12, 13, 14, 15, 16] rfl
        refine va_callv (va_runV (As := [.int x1, .int x2, .long w_2, .long w_3]) (rest := []) ⟨hx, hb, hml, hown, hts⟩ (c_X7_bounds l dC dI o r cI cJ s.heap.size S x1 x2 w_2 w_3 hI hQ) (cwV 4 hts (gV iX7_bounds (zin__r30 (.methodLink RX7 228 yX7_bounds) (List.mem_of_getElem? (i := 7) rfl))) rfl rfl rfl (by decide +kernel) ⟨Nat.le_of_ble_eq_true rfl, Nat.le_of_ble_eq_true rfl⟩) ⟨fun a U g mk q => ⟨q.1, mB_bl q.2⟩, mW_rv hw, fun U hU hW => ⟨rfl, mB_mv hw hD hU hW⟩⟩ rfl rfl hl.1 rfl (lv_room (Nat.le_of_ble_eq_true rfl)) dX7_meet_70 ⟨Nat.zero_le _, Nat.zero_le _⟩) hS (fun q _ h => hFc q h) hFc (fun S_4 t H1 locs ht hvm hw1 hB hz1 hk1 hS => ?_)
        obtain ⟨hP, -, hD1⟩ := hB
        rw [ht] at hP
        have hD := hD1.weaken (fun k q _ h => hFc q.1 h)
        generalize H1 = H at hP hS ⊢
        have hw : mH dC dI o r cI cJ S_4 s H := ⟨hP, hK⟩
        have hm := mA_of hts hw
        have hf : f_X7_meet S x1 x2 x3 x4 = (f_X7_meet_1 w_1 S_4) := hf.trans (congrArg (fun z => (f_X7_meet_1 w_1 z)) hw1.symm)
        refine lv_iload hx hb dX7_meet_73 (lv_at hl 0 rfl) ?_
        refine lv_if_eq (tgt := 82) hx hb dX7_meet_75 (by decide) (fun c_75 => ?_) (fun c_75 => ?_)
        · have hf : f_X7_meet S x1 x2 x3 x4 = ((0 : Int32), S_4) := hf.trans (if_pos c_75)
          refine lv_iconst (v := 0) hx hb dX7_meet_82 (by decide) ?_
          exact W.iret hx hb hr (fun t ht hW => ⟨⟨_, S_4, rfl, hf.symm, by rw [ht]; exact hP, va_K.moved hW.alike hK, hD⟩, hS.F ht⟩) hS.2.2 dX7_meet_83
        · have hf : f_X7_meet S x1 x2 x3 x4 = ((2 : Int32), S_4) := hf.trans (if_neg c_75)
          refine lv_iconst (v := 2) hx hb dX7_meet_78 (by decide) ?_
          refine lv_goto (tgt := 83) hx hb dX7_meet_79 (by decide) ?_
          exact W.iret hx hb hr (fun t ht hW => ⟨⟨_, S_4, rfl, hf.symm, by rw [ht]; exact hP, va_K.moved hW.alike hK, hD⟩, hS.F ht⟩) hS.2.2 dX7_meet_83
      refine lv_if_eq (tgt := 68) hx hb dX7_meet_55 (by decide) (fun c_55 => ?_) (fun c_55 => ?_)
      · have hf : f_X7_meet S x1 x2 x3 x4 = (f_X7_meet_2 w_1 S x1 x2 w_2 x4) := hf.trans (if_pos c_55)
        refine lv_lload hx hb dX7_meet_68 (lv_at hl 1 rfl) ?_
        exact K_70 x4 ls hf (lv_sub hl [3] rfl)
      · have hf : f_X7_meet S x1 x2 x3 x4 = (f_X7_meet_2 w_1 S x1 x2 w_2 (knan (mk S x1.toNatClampNeg))) := hf.trans (if_neg c_55)
        refine lv_aload_n hx hb dX7_meet_58 rfl (lv_at hl 0 rfl) ?_
        refine va_get (D := (dC, dI)) (ci := 5) (v := .ref (r 5)) (C := RX7) (T := TX7) (N := 18) hx hb hts zin_X7 hown hK hP 0 rfl rfl 5 (by decide) (hts _ (zin__r2 (.fieldLink RX7 38 "ReckonBenchModel" "NONE" "[J") (List.mem_of_getElem? (i := 21) rfl))) (fun _ h9 => h9) rfl dX7_meet_59 ?_
        refine lv_iload hx hb dX7_meet_62 (lv_at hl 2 rfl) ?_
        refine va_lald (f := knan) hx hb hK hP 6 1 rfl rfl (kin (mRow.k hI (mPair.row hQ))) dX7_meet_64 ?_
        rw [kcl (mRow.k hI (mPair.row hQ))]
        refine lv_goto (tgt := 70) hx hb dX7_meet_65 (by decide) ?_
        exact K_70 (knan (mk S x1.toNatClampNeg)) ls hf (lv_sub hl [3] rfl)
    refine lv_if_eq (tgt := 52) hx hb dX7_meet_39 (by decide) (fun c_39 => ?_) (fun c_39 => ?_)
    · have hf : f_X7_meet S x1 x2 x3 x4 = (f_X7_meet_3 w_1 S x1 x2 x3 x4) := hf.trans (if_pos c_39)
      refine lv_lload_n hx hb dX7_meet_52 rfl (lv_at hl 4 rfl) ?_
      exact K_53 x3 ls hf (lv_sub hl [1, 5, 6, 0] rfl)
    · have hf : f_X7_meet S x1 x2 x3 x4 = (f_X7_meet_3 w_1 S x1 x2 (knan (mk S x1.toNatClampNeg)) x4) := hf.trans (if_neg c_39)
      refine lv_aload_n hx hb dX7_meet_42 rfl (lv_at hl 1 rfl) ?_
      refine va_get (D := (dC, dI)) (ci := 5) (v := .ref (r 5)) (C := RX7) (T := TX7) (N := 18) hx hb hts zin_X7 hown hK hP 0 rfl rfl 5 (by decide) (hts _ (zin__r2 (.fieldLink RX7 38 "ReckonBenchModel" "NONE" "[J") (List.mem_of_getElem? (i := 21) rfl))) (fun _ h9 => h9) rfl dX7_meet_43 ?_
      refine lv_iload hx hb dX7_meet_46 (lv_at hl 6 rfl) ?_
      refine va_lald (f := knan) hx hb hK hP 6 1 rfl rfl (kin (mRow.k hI (mPair.row hQ))) dX7_meet_48 ?_
      rw [kcl (mRow.k hI (mPair.row hQ))]
      refine lv_goto (tgt := 53) hx hb dX7_meet_49 (by decide) ?_
      exact K_53 (knan (mk S x1.toNatClampNeg)) ls hf (lv_sub hl [1, 5, 6, 0] rfl)
  refine lv_if_le (tgt := 31) hx hb dX7_meet_24 (by decide) (fun c_24 => ?_) (fun c_24 => ?_)
  · have c_24 : (f_X7_rank (mk S x1.toNatClampNeg) x3) ≤ (f_X7_rank (mk S x1.toNatClampNeg) x4) := (lg_cmp_le (f_X7_rank (mk S x1.toNatClampNeg) x3) (f_X7_rank (mk S x1.toNatClampNeg) x4)).mp c_24
    have hf : f_X7_meet S x1 x2 x3 x4 = (f_X7_meet_4 (0 : Int32) S x1 x2 x3 x4) := hf.trans (if_pos c_24)
    refine lv_iconst (v := 0) hx hb dX7_meet_31 (by decide) ?_
    exact K_32 (0 : Int32) ls hf (lv_sub hl [1, 2, 3, 4, 5, 0] rfl)
  · have c_24 : ¬ ((f_X7_rank (mk S x1.toNatClampNeg) x3) ≤ (f_X7_rank (mk S x1.toNatClampNeg) x4)) := fun h9 => c_24 ((lg_cmp_le (f_X7_rank (mk S x1.toNatClampNeg) x3) (f_X7_rank (mk S x1.toNatClampNeg) x4)).mpr h9)
    have hf : f_X7_meet S x1 x2 x3 x4 = (f_X7_meet_4 (1 : Int32) S x1 x2 x3 x4) := hf.trans (if_neg c_24)
    refine lv_iconst (v := 1) hx hb dX7_meet_27 (by decide) ?_
    refine lv_goto (tgt := 32) hx hb dX7_meet_28 (by decide) ?_
    exact K_32 (1 : Int32) ls hf (lv_sub hl [1, 2, 3, 4, 5, 0] rfl)
def f_X7_move_1 (p9 : Int32 × MSt) : Int32 × MSt := (p9.1, p9.2)
def f_X7_move_2 (S_2 : MSt) (x3 : Int32) (x4 : Int32) (x1 : Int32) (x2 : Int32) : Int32 × MSt := (f_X7_move_1 (f_X7_keep S_2 x3 x4 (f_X7_turnedTo (mk S_2 x1.toNatClampNeg) (mk S_2 x3.toNatClampNeg) (f_X7_at S_2 x1 x2))))
def f_X7_move_3 (v6_1 : Int32) (S : MSt) (x3 : Int32) (x4 : Int32) (x1 : Int32) (x2 : Int32) : Int32 × MSt := if v6_1 ≤ 0 then (f_X7_move_2 (mset_s S (0 : Int32)) x3 x4 x1 x2) else (f_X7_move_1 (f_X7_no S v6_1))
def f_X7_move_4 (x5 : Int32) (S : MSt) (v6_1 : Int32) (x3 : Int32) (x4 : Int32) (x1 : Int32) (x2 : Int32) : Int32 × MSt := if x5 = 0 then (f_X7_move_1 (f_X7_no S (3 : Int32))) else (f_X7_move_3 v6_1 S x3 x4 x1 x2)
def f_X7_move_5 (S : MSt) (x1 : Int32) (x3 : Int32) (v6_1 : Int32) (x4 : Int32) (x2 : Int32) (x5 : Int32) : Int32 × MSt := if (nI (mk S x1.toNatClampNeg)) = (nI (mk S x3.toNatClampNeg)) then (f_X7_move_3 v6_1 S x3 x4 x1 x2) else (f_X7_move_4 x5 S v6_1 x3 x4 x1 x2)
def f_X7_move_6 (v6_1 : Int32) (S : MSt) (x1 : Int32) (x3 : Int32) (x4 : Int32) (x2 : Int32) (x5 : Int32) : Int32 × MSt := if v6_1 = 0 then (f_X7_move_5 S x1 x3 v6_1 x4 x2 x5) else (f_X7_move_3 v6_1 S x3 x4 x1 x2)
def f_X7_move_7 (S : MSt) : Int32 × MSt := (f_X7_move_1 (f_X7_no S (2 : Int32)))
def f_X7_move_8 (S : MSt) (x3 : Int32) (x4 : Int32) (v6_1 : Int32) (x1 : Int32) (x2 : Int32) (x5 : Int32) : Int32 × MSt := if (f_X7_outside S x3 x4) = 0 then (f_X7_move_6 v6_1 S x1 x3 x4 x2 x5) else (f_X7_move_7 S)
def f_X7_move_9 (S : MSt) (x3 : Int32) (x4 : Int32) (v6_1 : Int32) (x1 : Int32) (x2 : Int32) (x5 : Int32) : Int32 × MSt := if (nI (mn S)) ≤ x3 then (f_X7_move_7 S) else (f_X7_move_8 S x3 x4 v6_1 x1 x2 x5)
def f_X7_move_10 (x3 : Int32) (S : MSt) (x4 : Int32) (v6_1 : Int32) (x1 : Int32) (x2 : Int32) (x5 : Int32) : Int32 × MSt := if x3 < 0 then (f_X7_move_7 S) else (f_X7_move_9 S x3 x4 v6_1 x1 x2 x5)
def f_X7_move_11 (v6_1 : Int32) (x3 : Int32) (S : MSt) (x4 : Int32) (x1 : Int32) (x2 : Int32) (x5 : Int32) : Int32 × MSt := if v6_1 = 0 then (f_X7_move_10 x3 S x4 v6_1 x1 x2 x5) else (f_X7_move_6 v6_1 S x1 x3 x4 x2 x5)
def f_X7_move (S : MSt) (x1 : Int32) (x2 : Int32) (x3 : Int32) (x4 : Int32) (x5 : Int32) : Int32 × MSt := (f_X7_move_11 (f_X7_bad S x1 x2) x3 S x4 x1 x2 x5)
def zX7_move : List Cond := .code yX7_move cX7_move 7 (some .int) :: zall
theorem iX7_move : MWv RX7 yX7_move (.code yX7_move cX7_move 7 (some .int)) := ⟨(zin__r31 (.instanceMethod yX7_move) (List.mem_of_getElem? (i := 11) rfl)), (zin__r31 (.selects RX7 yX7_move yX7_move) (List.mem_of_getElem? (i := 12) rfl)), (zin__r1 (.initialized RX7) (List.mem_of_getElem? (i := 5) rfl)), (zin__r31 (.code yX7_move cX7_move 7 (some .int)) (List.mem_of_getElem? (i := 13) rfl))⟩
set_option maxHeartbeats 4000000 in
set_option maxRecDepth 100000 in
theorem c_X7_move (l : Launch) (dC : Nat → ClassId) (dI : Nat → Nat → Nat) (o : Nat) (r : Nat → Nat) (cI cJ : ClassId) (sz : Nat) (S : MSt) (x1 : Int32) (x2 : Int32) (x3 : Int32) (x4 : Int32) (x5 : Int32) (hI : mInv S) : Met l yX7_move zX7_move ({ frames := 4, cells := 0, slots := 0, locals := 93 }) (va_Pc [.ref o, .int x1, .int x2, .int x3, .int x4, .int x5] (fun U => mB dC dI o r cI cJ sz S U)) (va_Qi (fun r9 S9 => (r9, S9) = f_X7_move S x1 x2 x3 x4 x5) (mE dC dI o r cI cJ (va_A (mWs o r cI cJ S) sz)) (va_A (mWs o r cI cJ S) sz)) 0 0 (va_A (mWs o r cI cJ S) sz) := by
  refine Met.ofW (cc := cX7_move) (maxL := 7) (ret := (some .int)) (by decide) rfl ?_
  intro p e s m args below meth c s₁ B hml hv
  obtain ⟨rfl, hsz, hP, hK, hD0⟩ := hv
  have hx := B.exec
  have hb := B.bytes
  have hr := B.returns
  have hts : ∀ w ∈ zall, w.before _ s = true := fun w h => atoms_spec (ws := zX7_move) B.pre w (List.mem_cons_of_mem _ h)
  have hown : s.vm.findClass RX7 = some m.cls := findClass_of_methodNamed B.named
  have hlocks := B.notSynchronized
  subst hsz
  have hD := hD0.self (sz := s.heap.size)
  generalize hAe : va_A (mWs o r cI cJ S) s.heap.size = A at hD ⊢
  have hA : ∀ q : Nat, s.heap.size ≤ q → A q := fun q h => by rw [← hAe]; exact Or.inr h
  have hS : va_S A s.heap s.heap [] := va_S.rf
  have hw : mH dC dI o r cI cJ S s s.heap := ⟨hP, hK⟩
  have hm := mA_of hts hw
  have hl := lv_entry ([.ref o, .int x1, .int x2, .int x3, .int x4, .int x5]) (n := 7) (Nat.le_of_ble_eq_true rfl)
  rw [lg_entry_eq]
  generalize (lg_sl ([.ref o, .int x1, .int x2, .int x3, .int x4, .int x5]) ++ List.replicate (7 - (lg_sl ([.ref o, .int x1, .int x2, .int x3, .int x4, .int x5])).length) Slot.unset).toArray = ls at hl ⊢
  have hl : lv_has ls 7 [(0, .ref o), (1, .int x1), (2, .int x2), (3, .int x3), (4, .int x4), (5, .int x5)] := hl
  have hf : f_X7_move S x1 x2 x3 x4 x5 = (f_X7_move_11 (f_X7_bad S x1 x2) x3 S x4 x1 x2 x5) := rfl
  refine lv_aload_n hx hb dX7_move_0 rfl (lv_at hl 0 rfl) ?_
  refine lv_iload_n hx hb dX7_move_1 rfl (lv_at hl 1 rfl) ?_
  refine lv_iload_n hx hb dX7_move_2 rfl (lv_at hl 2 rfl) ?_
  refine vp_callSi (va_Run.run (va_runV (As := [.int x1, .int x2]) (rest := []) ⟨hx, hb, hml, hown, hts⟩ (c_X7_bad l dC dI o r cI cJ S x1 x2 hI) (cwV 2 hts (gV iX7_bad (zin__r6 (.methodLink RX7 142 yX7_bad) (List.mem_of_getElem? (i := 15) rfl))) rfl rfl rfl (by decide +kernel) ⟨Nat.le_of_ble_eq_true rfl, Nat.le_of_ble_eq_true rfl⟩) ⟨fun a U g mk q => ⟨q.1, mW_bl q.2⟩, (mW_rv hw), fun U hU hW => ⟨rfl, mW_mv hw hU hW⟩⟩ rfl rfl hl.1 rfl (lv_room (Nat.le_of_ble_eq_true rfl)) dX7_move_3 ⟨Nat.zero_le _, Nat.zero_le _⟩)) (fun r_3 hr_3 => ?_)
  subst hr_3
  refine lv_topi (fun v6_1 e_v6_1 => ?_)
  have hf : f_X7_move S x1 x2 x3 x4 x5 = (f_X7_move_11 v6_1 x3 S x4 x1 x2 x5) := hf.trans (congrArg (fun z => (f_X7_move_11 z x3 S x4 x1 x2 x5)) e_v6_1.symm)
  refine lv_istore (lv' := [(6, .int v6_1), (0, .ref o), (1, .int x1), (2, .int x2), (3, .int x3), (4, .int x4), (5, .int x5)]) hx hb dX7_move_6 hl (by decide) rfl (fun ls hl => ?_)
  refine lv_iload hx hb dX7_move_8 (lv_at hl 0 rfl) ?_
  refine lv_if_ne (tgt := 38) hx hb dX7_move_10 (by decide) (fun c_10 => ?_) (fun c_10 => ?_)
  · have hf : f_X7_move S x1 x2 x3 x4 x5 = (f_X7_move_6 v6_1 S x1 x3 x4 x2 x5) := hf.trans (if_neg c_10)
    refine lv_iload hx hb dX7_move_38 (lv_at hl 0 rfl) ?_
    refine lv_if_ne (tgt := 66) hx hb dX7_move_40 (by decide) (fun c_40 => ?_) (fun c_40 => ?_)
    · have hf : f_X7_move S x1 x2 x3 x4 x5 = (f_X7_move_3 v6_1 S x3 x4 x1 x2) := hf.trans (if_neg c_40)
      refine lv_iload hx hb dX7_move_66 (lv_at hl 0 rfl) ?_
      refine lv_if_le (tgt := 78) hx hb dX7_move_68 (by decide) (fun c_68 => ?_) (fun c_68 => ?_)
      · have hf : f_X7_move S x1 x2 x3 x4 x5 = (f_X7_move_2 (mset_s S (0 : Int32)) x3 x4 x1 x2) := hf.trans (if_pos c_68)
        have hL : mPl S x1 x2 := why_ok hI e_v6_1 c_68
        have hL4 : mPl S x3 x4 := (by first | exact out_ok hI hR3 c_32 | exact absurd (why_zero hI e_v6_1 c_68) c_10)
        refine lv_aload_n hx hb dX7_move_78 rfl (lv_at hl 1 rfl) ?_
        refine lv_iconst (v := 0) hx hb dX7_move_79 (by decide) ?_
        refine va_put (D := (dC, dI)) (ci := 5) (v := .int (0 : Int32)) (ty := .int) (C := RX7) (T := TX7) (N := 18) hx hb hts zin_X7 tyX7 tyX7_ok nmX7 hown hK hP hD hS 0 rfl rfl 17 (by decide) (hts _ (zin__r4 (.fieldLink RX7 75 "ReckonBenchModel" "status" "I") (List.mem_of_getElem? (i := 13) rfl))) (fun _ h9 => h9) rfl (by decide +kernel) rfl rfl (Nat.le_of_ble_eq_true rfl) dX7_move_80 (fun H locs hP hD hS => ?_)
        obtain ⟨S_2, e_S_2⟩ : ∃ z : MSt, z = (mset_s S (0 : Int32)) := ⟨_, rfl⟩
        have hP : va_P (dC, dI) vwCl (mWs o r cI cJ S_2) H := by rw [e_S_2]; exact hP
        have hD : va_D A (mWs o r cI cJ S_2) := by rw [e_S_2]; exact hD
        have hw : mH dC dI o r cI cJ S_2 s H := ⟨hP, hK⟩
        have hm := mA_of hts hw
        have hI : mInv S_2 := by rw [e_S_2]; exact hI
        have hL : mPl S_2 x1 x2 := by rw [e_S_2]; exact hL
        have hL4 : mPl S_2 x3 x4 := by rw [e_S_2]; exact hL4
        have hf : f_X7_move S x1 x2 x3 x4 x5 = (f_X7_move_2 S_2 x3 x4 x1 x2) := hf.trans (congrArg (fun z => (f_X7_move_2 z x3 x4 x1 x2)) e_S_2.symm)
        refine lv_aload_n hx hb dX7_move_83 rfl (lv_at hl 1 rfl) ?_
        refine lv_iload_n hx hb dX7_move_84 rfl (lv_at hl 4 rfl) ?_
        refine lv_iload hx hb dX7_move_85 (lv_at hl 5 rfl) ?_
        refine lv_aload_n hx hb dX7_move_87 rfl (lv_at hl 1 rfl) ?_
        refine lv_aload_n hx hb dX7_move_88 rfl (lv_at hl 1 rfl) ?_
        refine va_get (D := (dC, dI)) (ci := 5) (v := .ref (r 8)) (C := RX7) (T := TX7) (N := 18) hx hb hts zin_X7 hown hK hP 0 rfl rfl 8 (by decide) (hts _ (zin__r3 (.fieldLink RX7 51 "ReckonBenchModel" "kinds" "[I") (List.mem_of_getElem? (i := 2) rfl))) (fun _ h9 => h9) rfl dX7_move_89 ?_
        refine lv_iload_n hx hb dX7_move_92 rfl (lv_at hl 2 rfl) ?_
        refine va_iald (f := fun j => nI (mk S_2 j)) hx hb hK hP 9 0 rfl rfl (mRow.in2 hI (mPl.row hL)) dX7_move_93 ?_
        refine lv_aload_n hx hb dX7_move_94 rfl (lv_at hl 1 rfl) ?_
        refine va_get (D := (dC, dI)) (ci := 5) (v := .ref (r 8)) (C := RX7) (T := TX7) (N := 18) hx hb hts zin_X7 hown hK hP 0 rfl rfl 8 (by decide) (hts _ (zin__r3 (.fieldLink RX7 51 "ReckonBenchModel" "kinds" "[I") (List.mem_of_getElem? (i := 2) rfl))) (fun _ h9 => h9) rfl dX7_move_95 ?_
        refine lv_iload_n hx hb dX7_move_98 rfl (lv_at hl 4 rfl) ?_
        refine va_iald (f := fun j => nI (mk S_2 j)) hx hb hK hP 9 0 rfl rfl (mRow.in2 hI (mPl.row hL4)) dX7_move_99 ?_
        refine lv_aload_n hx hb dX7_move_100 rfl (lv_at hl 1 rfl) ?_
        refine lv_iload_n hx hb dX7_move_101 rfl (lv_at hl 2 rfl) ?_
        refine lv_iload_n hx hb dX7_move_102 rfl (lv_at hl 3 rfl) ?_
        refine vp_callSl (va_Run.run (va_runV (As := [.int x1, .int x2]) (rest := [.int (nI (mk S_2 x3.toNatClampNeg)), .int (nI (mk S_2 x1.toNatClampNeg)), .ref o, .int x4, .int x3, .ref o]) ⟨hx, hb, hml, hown, hts⟩ (c_X7_at l dC dI o r cI cJ S_2 x1 x2 (mRow.in0 hI (mPl.row hL)) (mPl.at hI hL)) (cwV 2 hts (gV iX7_at (zin__r11 (.methodLink RX7 155 yX7_at) (List.mem_of_getElem? (i := 2) rfl))) rfl rfl rfl (by decide +kernel) ⟨Nat.le_of_ble_eq_true rfl, Nat.le_of_ble_eq_true rfl⟩) ⟨fun a U g mk q => ⟨q.1, mW_bl q.2⟩, (mW_rv hw), fun U hU hW => ⟨rfl, mW_mv hw hU hW⟩⟩ rfl rfl hl.1 rfl (lv_room (Nat.le_of_ble_eq_true rfl)) dX7_move_103 ⟨Nat.zero_le _, Nat.zero_le _⟩)) (fun r_103 hr_103 => ?_)
        subst hr_103
        refine vp_callSl (va_Run.run (va_runV (As := [.int (nI (mk S_2 x1.toNatClampNeg)), .int (nI (mk S_2 x3.toNatClampNeg)), .long (f_X7_at S_2 x1 x2)]) (rest := [.int x4, .int x3, .ref o]) ⟨hx, hb, hml, hown, hts⟩ (c_X7_turnedTo l o r (mk S_2 x1.toNatClampNeg) (mRow.k hI (mPl.row hL)) (mk S_2 x3.toNatClampNeg) (mRow.k hI (mPl.row hL4)) (f_X7_at S_2 x1 x2) (mPl.cln hI hL)) (cwV 3 hts (gV iX7_turnedTo (zin__r31 (.methodLink RX7 245 yX7_turnedTo) (List.mem_of_getElem? (i := 14) rfl))) rfl rfl rfl (by decide +kernel) ⟨Nat.le_of_ble_eq_true rfl, Nat.le_of_ble_eq_true rfl⟩) ⟨fun a U g mk q => ⟨q.1, mU_bl q.2⟩, (mW_rv hw), fun U hU hW => ⟨rfl, mU_mvH hm hU hW⟩⟩ rfl rfl hl.1 rfl (lv_room (Nat.le_of_ble_eq_true rfl)) dX7_move_106 ⟨Nat.zero_le _, Nat.zero_le _⟩)) (fun r_106 hr_106 => ?_)
        subst hr_106
        have hFc := va_free (wc := mWs o r cI cJ S_2) hD hS hA [0, 1, 2, 3, 4, 5, 6, 7, 8, 9, 10, 11, 12, 13, 14, 15, 16] rfl
        refine va_calli (va_runV (As := [.int x3, .int x4, .long (f_X7_turnedTo (mk S_2 x1.toNatClampNeg) (mk S_2 x3.toNatClampNeg) (f_X7_at S_2 x1 x2))]) (rest := []) ⟨hx, hb, hml, hown, hts⟩ (c_X7_keep l dC dI o r cI cJ H.size S_2 x3 x4 (f_X7_turnedTo (mk S_2 x1.toNatClampNeg) (mk S_2 x3.toNatClampNeg) (f_X7_at S_2 x1 x2)) hI hL4) (cwV 3 hts (gV iX7_keep (zin__r7 (.methodLink RX7 149 yX7_keep) (List.mem_of_getElem? (i := 9) rfl))) rfl rfl rfl (by decide +kernel) ⟨Nat.le_of_ble_eq_true rfl, Nat.le_of_ble_eq_true rfl⟩) ⟨fun a U g mk q => ⟨q.1, mB_bl q.2⟩, mW_rv hw, fun U hU hW => ⟨rfl, mB_mv hw hD hU hW⟩⟩ rfl rfl hl.1 rfl (lv_room (Nat.le_of_ble_eq_true rfl)) dX7_move_109 ⟨Nat.zero_le _, Nat.zero_le _⟩) hS (fun q _ h => hFc q h) hFc (fun r_109 S_3 t H1 locs ht hvm hw1 hB hz1 hk1 hS => ?_)
        obtain ⟨hP, -, hD1⟩ := hB
        rw [ht] at hP
        have hD := hD1.weaken (fun k q _ h => hFc q.1 h)
        generalize H1 = H at hP hS ⊢
        have hw : mH dC dI o r cI cJ S_3 s H := ⟨hP, hK⟩
        have hm := mA_of hts hw
        have hf : f_X7_move S x1 x2 x3 x4 x5 = (r_109, S_3) := hf.trans (congrArg (fun z => (f_X7_move_1 z)) hw1.symm)
        exact W.iret hx hb hr (fun t ht hW => ⟨⟨_, S_3, rfl, hf.symm, by rw [ht]; exact hP, va_K.moved hW.alike hK, hD⟩, hS.F ht⟩) hS.2.2 dX7_move_112
      · have hf : f_X7_move S x1 x2 x3 x4 x5 = (f_X7_move_1 (f_X7_no S v6_1)) := hf.trans (if_neg c_68)
        refine lv_aload_n hx hb dX7_move_71 rfl (lv_at hl 1 rfl) ?_
        refine lv_iload hx hb dX7_move_72 (lv_at hl 0 rfl) ?_
        have hFc := va_free (wc := mWs o r cI cJ S) hD hS hA [0, 1, 2, 3, 4, 5, 6, 7, 8, 9, 10, 11, 12, 13, 14, 15, 16] rfl
        refine va_calli (va_runV (As := [.int v6_1]) (rest := []) ⟨hx, hb, hml, hown, hts⟩ (c_X7_no l dC dI o r cI cJ s.heap.size S v6_1) (cwV 1 hts (gV iX7_no (zin__r4 (.methodLink RX7 139 yX7_no) (List.mem_of_getElem? (i := 14) rfl))) rfl rfl rfl (by decide +kernel) ⟨Nat.le_of_ble_eq_true rfl, Nat.le_of_ble_eq_true rfl⟩) ⟨fun a U g mk q => ⟨q.1, mB_bl q.2⟩, mW_rv hw, fun U hU hW => ⟨rfl, mB_mv hw hD hU hW⟩⟩ rfl rfl hl.1 rfl (lv_room (Nat.le_of_ble_eq_true rfl)) dX7_move_74 ⟨Nat.zero_le _, Nat.zero_le _⟩) hS (fun q _ h => hFc q h) hFc (fun r_74 S_4 t H1 locs ht hvm hw1 hB hz1 hk1 hS => ?_)
        obtain ⟨hP, -, hD1⟩ := hB
        rw [ht] at hP
        have hD := hD1.weaken (fun k q _ h => hFc q.1 h)
        generalize H1 = H at hP hS ⊢
        have hw : mH dC dI o r cI cJ S_4 s H := ⟨hP, hK⟩
        have hm := mA_of hts hw
        have hf : f_X7_move S x1 x2 x3 x4 x5 = (r_74, S_4) := hf.trans (congrArg (fun z => (f_X7_move_1 z)) hw1.symm)
        exact W.iret hx hb hr (fun t ht hW => ⟨⟨_, S_4, rfl, hf.symm, by rw [ht]; exact hP, va_K.moved hW.alike hK, hD⟩, hS.F ht⟩) hS.2.2 dX7_move_77
    · have hf : f_X7_move S x1 x2 x3 x4 x5 = (f_X7_move_5 S x1 x3 v6_1 x4 x2 x5) := hf.trans (if_pos c_40)
      have hL0 : mPl S x1 x2 := why_ok0 hI e_v6_1 c_40
      have hR3 : mRow S x3 := (by first | exact hR3 | exact absurd c_40 c_10)
      refine lv_aload_n hx hb dX7_move_43 rfl (lv_at hl 1 rfl) ?_
      refine va_get (D := (dC, dI)) (ci := 5) (v := .ref (r 8)) (C := RX7) (T := TX7) (N := 18) hx hb hts zin_X7 hown hK hP 0 rfl rfl 8 (by decide) (hts _ (zin__r3 (.fieldLink RX7 51 "ReckonBenchModel" "kinds" "[I") (List.mem_of_getElem? (i := 2) rfl))) (fun _ h9 => h9) rfl dX7_move_44 ?_
      refine lv_iload_n hx hb dX7_move_47 rfl (lv_at hl 2 rfl) ?_
      refine va_iald (f := fun j => nI (mk S j)) hx hb hK hP 9 0 rfl rfl (mRow.in2 hI (mPl.row hL0)) dX7_move_48 ?_
      refine lv_aload_n hx hb dX7_move_49 rfl (lv_at hl 1 rfl) ?_
      refine va_get (D := (dC, dI)) (ci := 5) (v := .ref (r 8)) (C := RX7) (T := TX7) (N := 18) hx hb hts zin_X7 hown hK hP 0 rfl rfl 8 (by decide) (hts _ (zin__r3 (.fieldLink RX7 51 "ReckonBenchModel" "kinds" "[I") (List.mem_of_getElem? (i := 2) rfl))) (fun _ h9 => h9) rfl dX7_move_50 ?_
      refine lv_iload_n hx hb dX7_move_53 rfl (lv_at hl 4 rfl) ?_
      refine va_iald (f := fun j => nI (mk S j)) hx hb hK hP 9 0 rfl rfl (mRow.in2 hI hR3) dX7_move_54 ?_
      refine lv_icmp_eq (tgt := 66) hx hb dX7_move_55 (by decide) (fun c_55 => ?_) (fun c_55 => ?_)
      · have hf : f_X7_move S x1 x2 x3 x4 x5 = (f_X7_move_3 v6_1 S x3 x4 x1 x2) := hf.trans (if_pos c_55)
        refine lv_iload hx hb dX7_move_66 (lv_at hl 0 rfl) ?_
        refine lv_if_le (tgt := 78) hx hb dX7_move_68 (by decide) (fun c_68 => ?_) (fun c_68 => ?_)
        · have hf : f_X7_move S x1 x2 x3 x4 x5 = (f_X7_move_2 (mset_s S (0 : Int32)) x3 x4 x1 x2) := hf.trans (if_pos c_68)
          have hL : mPl S x1 x2 := why_ok hI e_v6_1 c_68
          have hL4 : mPl S x3 x4 := (by first | exact out_ok hI hR3 c_32 | exact absurd (why_zero hI e_v6_1 c_68) c_10)
          refine lv_aload_n hx hb dX7_move_78 rfl (lv_at hl 1 rfl) ?_
          refine lv_iconst (v := 0) hx hb dX7_move_79 (by decide) ?_
          refine va_put (D := (dC, dI)) (ci := 5) (v := .int (0 : Int32)) (ty := .int) (C := RX7) (T := TX7) (N := 18) hx hb hts zin_X7 tyX7 tyX7_ok nmX7 hown hK hP hD hS 0 rfl rfl 17 (by decide) (hts _ (zin__r4 (.fieldLink RX7 75 "ReckonBenchModel" "status" "I") (List.mem_of_getElem? (i := 13) rfl))) (fun _ h9 => h9) rfl (by decide +kernel) rfl rfl (Nat.le_of_ble_eq_true rfl) dX7_move_80 (fun H locs hP hD hS => ?_)
          obtain ⟨S_5, e_S_5⟩ : ∃ z : MSt, z = (mset_s S (0 : Int32)) := ⟨_, rfl⟩
          have hP : va_P (dC, dI) vwCl (mWs o r cI cJ S_5) H := by rw [e_S_5]; exact hP
          have hD : va_D A (mWs o r cI cJ S_5) := by rw [e_S_5]; exact hD
          have hw : mH dC dI o r cI cJ S_5 s H := ⟨hP, hK⟩
          have hm := mA_of hts hw
          have hI : mInv S_5 := by rw [e_S_5]; exact hI
          have hL0 : mPl S_5 x1 x2 := by rw [e_S_5]; exact hL0
          have hR3 : mRow S_5 x3 := by rw [e_S_5]; exact hR3
          have hL : mPl S_5 x1 x2 := by rw [e_S_5]; exact hL
          have hL4 : mPl S_5 x3 x4 := by rw [e_S_5]; exact hL4
          have hf : f_X7_move S x1 x2 x3 x4 x5 = (f_X7_move_2 S_5 x3 x4 x1 x2) := hf.trans (congrArg (fun z => (f_X7_move_2 z x3 x4 x1 x2)) e_S_5.symm)
          refine lv_aload_n hx hb dX7_move_83 rfl (lv_at hl 1 rfl) ?_
          refine lv_iload_n hx hb dX7_move_84 rfl (lv_at hl 4 rfl) ?_
          refine lv_iload hx hb dX7_move_85 (lv_at hl 5 rfl) ?_
          refine lv_aload_n hx hb dX7_move_87 rfl (lv_at hl 1 rfl) ?_
          refine lv_aload_n hx hb dX7_move_88 rfl (lv_at hl 1 rfl) ?_
          refine va_get (D := (dC, dI)) (ci := 5) (v := .ref (r 8)) (C := RX7) (T := TX7) (N := 18) hx hb hts zin_X7 hown hK hP 0 rfl rfl 8 (by decide) (hts _ (zin__r3 (.fieldLink RX7 51 "ReckonBenchModel" "kinds" "[I") (List.mem_of_getElem? (i := 2) rfl))) (fun _ h9 => h9) rfl dX7_move_89 ?_
          refine lv_iload_n hx hb dX7_move_92 rfl (lv_at hl 2 rfl) ?_
          refine va_iald (f := fun j => nI (mk S_5 j)) hx hb hK hP 9 0 rfl rfl (mRow.in2 hI (mPl.row hL)) dX7_move_93 ?_
          refine lv_aload_n hx hb dX7_move_94 rfl (lv_at hl 1 rfl) ?_
          refine va_get (D := (dC, dI)) (ci := 5) (v := .ref (r 8)) (C := RX7) (T := TX7) (N := 18) hx hb hts zin_X7 hown hK hP 0 rfl rfl 8 (by decide) (hts _ (zin__r3 (.fieldLink RX7 51 "ReckonBenchModel" "kinds" "[I") (List.mem_of_getElem? (i := 2) rfl))) (fun _ h9 => h9) rfl dX7_move_95 ?_
          refine lv_iload_n hx hb dX7_move_98 rfl (lv_at hl 4 rfl) ?_
          refine va_iald (f := fun j => nI (mk S_5 j)) hx hb hK hP 9 0 rfl rfl (mRow.in2 hI (mPl.row hL4)) dX7_move_99 ?_
          refine lv_aload_n hx hb dX7_move_100 rfl (lv_at hl 1 rfl) ?_
          refine lv_iload_n hx hb dX7_move_101 rfl (lv_at hl 2 rfl) ?_
          refine lv_iload_n hx hb dX7_move_102 rfl (lv_at hl 3 rfl) ?_
          refine vp_callSl (va_Run.run (va_runV (As := [.int x1, .int x2]) (rest := [.int (nI (mk S_5 x3.toNatClampNeg)), .int (nI (mk S_5 x1.toNatClampNeg)), .ref o, .int x4, .int x3, .ref o]) ⟨hx, hb, hml, hown, hts⟩ (c_X7_at l dC dI o r cI cJ S_5 x1 x2 (mRow.in0 hI (mPl.row hL)) (mPl.at hI hL)) (cwV 2 hts (gV iX7_at (zin__r11 (.methodLink RX7 155 yX7_at) (List.mem_of_getElem? (i := 2) rfl))) rfl rfl rfl (by decide +kernel) ⟨Nat.le_of_ble_eq_true rfl, Nat.le_of_ble_eq_true rfl⟩) ⟨fun a U g mk q => ⟨q.1, mW_bl q.2⟩, (mW_rv hw), fun U hU hW => ⟨rfl, mW_mv hw hU hW⟩⟩ rfl rfl hl.1 rfl (lv_room (Nat.le_of_ble_eq_true rfl)) dX7_move_103 ⟨Nat.zero_le _, Nat.zero_le _⟩)) (fun r_103 hr_103 => ?_)
          subst hr_103
          refine vp_callSl (va_Run.run (va_runV (As := [.int (nI (mk S_5 x1.toNatClampNeg)), .int (nI (mk S_5 x3.toNatClampNeg)), .long (f_X7_at S_5 x1 x2)]) (rest := [.int x4, .int x3, .ref o]) ⟨hx, hb, hml, hown, hts⟩ (c_X7_turnedTo l o r (mk S_5 x1.toNatClampNeg) (mRow.k hI (mPl.row hL)) (mk S_5 x3.toNatClampNeg) (mRow.k hI (mPl.row hL4)) (f_X7_at S_5 x1 x2) (mPl.cln hI hL)) (cwV 3 hts (gV iX7_turnedTo (zin__r31 (.methodLink RX7 245 yX7_turnedTo) (List.mem_of_getElem? (i := 14) rfl))) rfl rfl rfl (by decide +kernel) ⟨Nat.le_of_ble_eq_true rfl, Nat.le_of_ble_eq_true rfl⟩) ⟨fun a U g mk q => ⟨q.1, mU_bl q.2⟩, (mW_rv hw), fun U hU hW => ⟨rfl, mU_mvH hm hU hW⟩⟩ rfl rfl hl.1 rfl (lv_room (Nat.le_of_ble_eq_true rfl)) dX7_move_106 ⟨Nat.zero_le _, Nat.zero_le _⟩)) (fun r_106 hr_106 => ?_)
          subst hr_106
          have hFc := va_free (wc := mWs o r cI cJ S_5) hD hS hA [0, 1, 2, 3, 4, 5, 6, 7, 8, 9, 10, 11, 12, 13, 14, 15, 16] rfl
          refine va_calli (va_runV (As := [.int x3, .int x4, .long (f_X7_turnedTo (mk S_5 x1.toNatClampNeg) (mk S_5 x3.toNatClampNeg) (f_X7_at S_5 x1 x2))]) (rest := []) ⟨hx, hb, hml, hown, hts⟩ (c_X7_keep l dC dI o r cI cJ H.size S_5 x3 x4 (f_X7_turnedTo (mk S_5 x1.toNatClampNeg) (mk S_5 x3.toNatClampNeg) (f_X7_at S_5 x1 x2)) hI hL4) (cwV 3 hts (gV iX7_keep (zin__r7 (.methodLink RX7 149 yX7_keep) (List.mem_of_getElem? (i := 9) rfl))) rfl rfl rfl (by decide +kernel) ⟨Nat.le_of_ble_eq_true rfl, Nat.le_of_ble_eq_true rfl⟩) ⟨fun a U g mk q => ⟨q.1, mB_bl q.2⟩, mW_rv hw, fun U hU hW => ⟨rfl, mB_mv hw hD hU hW⟩⟩ rfl rfl hl.1 rfl (lv_room (Nat.le_of_ble_eq_true rfl)) dX7_move_109 ⟨Nat.zero_le _, Nat.zero_le _⟩) hS (fun q _ h => hFc q h) hFc (fun r_109 S_6 t H1 locs ht hvm hw1 hB hz1 hk1 hS => ?_)
          obtain ⟨hP, -, hD1⟩ := hB
          rw [ht] at hP
          have hD := hD1.weaken (fun k q _ h => hFc q.1 h)
          generalize H1 = H at hP hS ⊢
          have hw : mH dC dI o r cI cJ S_6 s H := ⟨hP, hK⟩
          have hm := mA_of hts hw
          have hf : f_X7_move S x1 x2 x3 x4 x5 = (r_109, S_6) := hf.trans (congrArg (fun z => (f_X7_move_1 z)) hw1.symm)
          exact W.iret hx hb hr (fun t ht hW => ⟨⟨_, S_6, rfl, hf.symm, by rw [ht]; exact hP, va_K.moved hW.alike hK, hD⟩, hS.F ht⟩) hS.2.2 dX7_move_112
        · have hf : f_X7_move S x1 x2 x3 x4 x5 = (f_X7_move_1 (f_X7_no S v6_1)) := hf.trans (if_neg c_68)
          refine lv_aload_n hx hb dX7_move_71 rfl (lv_at hl 1 rfl) ?_
          refine lv_iload hx hb dX7_move_72 (lv_at hl 0 rfl) ?_
          have hFc := va_free (wc := mWs o r cI cJ S) hD hS hA [0, 1, 2, 3, 4, 5, 6, 7, 8, 9, 10, 11, 12, 13, 14, 15, 16] rfl
          refine va_calli (va_runV (As := [.int v6_1]) (rest := []) ⟨hx, hb, hml, hown, hts⟩ (c_X7_no l dC dI o r cI cJ s.heap.size S v6_1) (cwV 1 hts (gV iX7_no (zin__r4 (.methodLink RX7 139 yX7_no) (List.mem_of_getElem? (i := 14) rfl))) rfl rfl rfl (by decide +kernel) ⟨Nat.le_of_ble_eq_true rfl, Nat.le_of_ble_eq_true rfl⟩) ⟨fun a U g mk q => ⟨q.1, mB_bl q.2⟩, mW_rv hw, fun U hU hW => ⟨rfl, mB_mv hw hD hU hW⟩⟩ rfl rfl hl.1 rfl (lv_room (Nat.le_of_ble_eq_true rfl)) dX7_move_74 ⟨Nat.zero_le _, Nat.zero_le _⟩) hS (fun q _ h => hFc q h) hFc (fun r_74 S_7 t H1 locs ht hvm hw1 hB hz1 hk1 hS => ?_)
          obtain ⟨hP, -, hD1⟩ := hB
          rw [ht] at hP
          have hD := hD1.weaken (fun k q _ h => hFc q.1 h)
          generalize H1 = H at hP hS ⊢
          have hw : mH dC dI o r cI cJ S_7 s H := ⟨hP, hK⟩
          have hm := mA_of hts hw
          have hf : f_X7_move S x1 x2 x3 x4 x5 = (r_74, S_7) := hf.trans (congrArg (fun z => (f_X7_move_1 z)) hw1.symm)
          exact W.iret hx hb hr (fun t ht hW => ⟨⟨_, S_7, rfl, hf.symm, by rw [ht]; exact hP, va_K.moved hW.alike hK, hD⟩, hS.F ht⟩) hS.2.2 dX7_move_77
      · have hf : f_X7_move S x1 x2 x3 x4 x5 = (f_X7_move_4 x5 S v6_1 x3 x4 x1 x2) := hf.trans (if_neg c_55)
        refine lv_iload hx hb dX7_move_58 (lv_at hl 6 rfl) ?_
        refine lv_if_ne (tgt := 66) hx hb dX7_move_60 (by decide) (fun c_60 => ?_) (fun c_60 => ?_)
        · have hf : f_X7_move S x1 x2 x3 x4 x5 = (f_X7_move_3 v6_1 S x3 x4 x1 x2) := hf.trans (if_neg c_60)
          refine lv_iload hx hb dX7_move_66 (lv_at hl 0 rfl) ?_
          refine lv_if_le (tgt := 78) hx hb dX7_move_68 (by decide) (fun c_68 => ?_) (fun c_68 => ?_)
          · have hf : f_X7_move S x1 x2 x3 x4 x5 = (f_X7_move_2 (mset_s S (0 : Int32)) x3 x4 x1 x2) := hf.trans (if_pos c_68)
            have hL : mPl S x1 x2 := why_ok hI e_v6_1 c_68
            have hL4 : mPl S x3 x4 := (by first | exact out_ok hI hR3 c_32 | exact absurd (why_zero hI e_v6_1 c_68) c_10)
            refine lv_aload_n hx hb dX7_move_78 rfl (lv_at hl 1 rfl) ?_
            refine lv_iconst (v := 0) hx hb dX7_move_79 (by decide) ?_
            refine va_put (D := (dC, dI)) (ci := 5) (v := .int (0 : Int32)) (ty := .int) (C := RX7) (T := TX7) (N := 18) hx hb hts zin_X7 tyX7 tyX7_ok nmX7 hown hK hP hD hS 0 rfl rfl 17 (by decide) (hts _ (zin__r4 (.fieldLink RX7 75 "ReckonBenchModel" "status" "I") (List.mem_of_getElem? (i := 13) rfl))) (fun _ h9 => h9) rfl (by decide +kernel) rfl rfl (Nat.le_of_ble_eq_true rfl) dX7_move_80 (fun H locs hP hD hS => ?_)
            obtain ⟨S_8, e_S_8⟩ : ∃ z : MSt, z = (mset_s S (0 : Int32)) := ⟨_, rfl⟩
            have hP : va_P (dC, dI) vwCl (mWs o r cI cJ S_8) H := by rw [e_S_8]; exact hP
            have hD : va_D A (mWs o r cI cJ S_8) := by rw [e_S_8]; exact hD
            have hw : mH dC dI o r cI cJ S_8 s H := ⟨hP, hK⟩
            have hm := mA_of hts hw
            have hI : mInv S_8 := by rw [e_S_8]; exact hI
            have hL0 : mPl S_8 x1 x2 := by rw [e_S_8]; exact hL0
            have hR3 : mRow S_8 x3 := by rw [e_S_8]; exact hR3
            have hL : mPl S_8 x1 x2 := by rw [e_S_8]; exact hL
            have hL4 : mPl S_8 x3 x4 := by rw [e_S_8]; exact hL4
            have hf : f_X7_move S x1 x2 x3 x4 x5 = (f_X7_move_2 S_8 x3 x4 x1 x2) := hf.trans (congrArg (fun z => (f_X7_move_2 z x3 x4 x1 x2)) e_S_8.symm)
            refine lv_aload_n hx hb dX7_move_83 rfl (lv_at hl 1 rfl) ?_
            refine lv_iload_n hx hb dX7_move_84 rfl (lv_at hl 4 rfl) ?_
            refine lv_iload hx hb dX7_move_85 (lv_at hl 5 rfl) ?_
            refine lv_aload_n hx hb dX7_move_87 rfl (lv_at hl 1 rfl) ?_
            refine lv_aload_n hx hb dX7_move_88 rfl (lv_at hl 1 rfl) ?_
            refine va_get (D := (dC, dI)) (ci := 5) (v := .ref (r 8)) (C := RX7) (T := TX7) (N := 18) hx hb hts zin_X7 hown hK hP 0 rfl rfl 8 (by decide) (hts _ (zin__r3 (.fieldLink RX7 51 "ReckonBenchModel" "kinds" "[I") (List.mem_of_getElem? (i := 2) rfl))) (fun _ h9 => h9) rfl dX7_move_89 ?_
            refine lv_iload_n hx hb dX7_move_92 rfl (lv_at hl 2 rfl) ?_
            refine va_iald (f := fun j => nI (mk S_8 j)) hx hb hK hP 9 0 rfl rfl (mRow.in2 hI (mPl.row hL)) dX7_move_93 ?_
            refine lv_aload_n hx hb dX7_move_94 rfl (lv_at hl 1 rfl) ?_
            refine va_get (D := (dC, dI)) (ci := 5) (v := .ref (r 8)) (C := RX7) (T := TX7) (N := 18) hx hb hts zin_X7 hown hK hP 0 rfl rfl 8 (by decide) (hts _ (zin__r3 (.fieldLink RX7 51 "ReckonBenchModel" "kinds" "[I") (List.mem_of_getElem? (i := 2) rfl))) (fun _ h9 => h9) rfl dX7_move_95 ?_
            refine lv_iload_n hx hb dX7_move_98 rfl (lv_at hl 4 rfl) ?_
            refine va_iald (f := fun j => nI (mk S_8 j)) hx hb hK hP 9 0 rfl rfl (mRow.in2 hI (mPl.row hL4)) dX7_move_99 ?_
            refine lv_aload_n hx hb dX7_move_100 rfl (lv_at hl 1 rfl) ?_
            refine lv_iload_n hx hb dX7_move_101 rfl (lv_at hl 2 rfl) ?_
            refine lv_iload_n hx hb dX7_move_102 rfl (lv_at hl 3 rfl) ?_
            refine vp_callSl (va_Run.run (va_runV (As := [.int x1, .int x2]) (rest := [.int (nI (mk S_8 x3.toNatClampNeg)), .int (nI (mk S_8 x1.toNatClampNeg)), .ref o, .int x4, .int x3, .ref o]) ⟨hx, hb, hml, hown, hts⟩ (c_X7_at l dC dI o r cI cJ S_8 x1 x2 (mRow.in0 hI (mPl.row hL)) (mPl.at hI hL)) (cwV 2 hts (gV iX7_at (zin__r11 (.methodLink RX7 155 yX7_at) (List.mem_of_getElem? (i := 2) rfl))) rfl rfl rfl (by decide +kernel) ⟨Nat.le_of_ble_eq_true rfl, Nat.le_of_ble_eq_true rfl⟩) ⟨fun a U g mk q => ⟨q.1, mW_bl q.2⟩, (mW_rv hw), fun U hU hW => ⟨rfl, mW_mv hw hU hW⟩⟩ rfl rfl hl.1 rfl (lv_room (Nat.le_of_ble_eq_true rfl)) dX7_move_103 ⟨Nat.zero_le _, Nat.zero_le _⟩)) (fun r_103 hr_103 => ?_)
            subst hr_103
            refine vp_callSl (va_Run.run (va_runV (As := [.int (nI (mk S_8 x1.toNatClampNeg)), .int (nI (mk S_8 x3.toNatClampNeg)), .long (f_X7_at S_8 x1 x2)]) (rest := [.int x4, .int x3, .ref o]) ⟨hx, hb, hml, hown, hts⟩ (c_X7_turnedTo l o r (mk S_8 x1.toNatClampNeg) (mRow.k hI (mPl.row hL)) (mk S_8 x3.toNatClampNeg) (mRow.k hI (mPl.row hL4)) (f_X7_at S_8 x1 x2) (mPl.cln hI hL)) (cwV 3 hts (gV iX7_turnedTo (zin__r31 (.methodLink RX7 245 yX7_turnedTo) (List.mem_of_getElem? (i := 14) rfl))) rfl rfl rfl (by decide +kernel) ⟨Nat.le_of_ble_eq_true rfl, Nat.le_of_ble_eq_true rfl⟩) ⟨fun a U g mk q => ⟨q.1, mU_bl q.2⟩, (mW_rv hw), fun U hU hW => ⟨rfl, mU_mvH hm hU hW⟩⟩ rfl rfl hl.1 rfl (lv_room (Nat.le_of_ble_eq_true rfl)) dX7_move_106 ⟨Nat.zero_le _, Nat.zero_le _⟩)) (fun r_106 hr_106 => ?_)
            subst hr_106
            have hFc := va_free (wc := mWs o r cI cJ S_8) hD hS hA [0, 1, 2, 3, 4, 5, 6, 7, 8, 9, 10, 11, 12, 13, 14, 15, 16] rfl
            refine va_calli (va_runV (As := [.int x3, .int x4, .long (f_X7_turnedTo (mk S_8 x1.toNatClampNeg) (mk S_8 x3.toNatClampNeg) (f_X7_at S_8 x1 x2))]) (rest := []) ⟨hx, hb, hml, hown, hts⟩ (c_X7_keep l dC dI o r cI cJ H.size S_8 x3 x4 (f_X7_turnedTo (mk S_8 x1.toNatClampNeg) (mk S_8 x3.toNatClampNeg) (f_X7_at S_8 x1 x2)) hI hL4) (cwV 3 hts (gV iX7_keep (zin__r7 (.methodLink RX7 149 yX7_keep) (List.mem_of_getElem? (i := 9) rfl))) rfl rfl rfl (by decide +kernel) ⟨Nat.le_of_ble_eq_true rfl, Nat.le_of_ble_eq_true rfl⟩) ⟨fun a U g mk q => ⟨q.1, mB_bl q.2⟩, mW_rv hw, fun U hU hW => ⟨rfl, mB_mv hw hD hU hW⟩⟩ rfl rfl hl.1 rfl (lv_room (Nat.le_of_ble_eq_true rfl)) dX7_move_109 ⟨Nat.zero_le _, Nat.zero_le _⟩) hS (fun q _ h => hFc q h) hFc (fun r_109 S_9 t H1 locs ht hvm hw1 hB hz1 hk1 hS => ?_)
            obtain ⟨hP, -, hD1⟩ := hB
            rw [ht] at hP
            have hD := hD1.weaken (fun k q _ h => hFc q.1 h)
            generalize H1 = H at hP hS ⊢
            have hw : mH dC dI o r cI cJ S_9 s H := ⟨hP, hK⟩
            have hm := mA_of hts hw
            have hf : f_X7_move S x1 x2 x3 x4 x5 = (r_109, S_9) := hf.trans (congrArg (fun z => (f_X7_move_1 z)) hw1.symm)
            exact W.iret hx hb hr (fun t ht hW => ⟨⟨_, S_9, rfl, hf.symm, by rw [ht]; exact hP, va_K.moved hW.alike hK, hD⟩, hS.F ht⟩) hS.2.2 dX7_move_112
          · have hf : f_X7_move S x1 x2 x3 x4 x5 = (f_X7_move_1 (f_X7_no S v6_1)) := hf.trans (if_neg c_68)
            refine lv_aload_n hx hb dX7_move_71 rfl (lv_at hl 1 rfl) ?_
            refine lv_iload hx hb dX7_move_72 (lv_at hl 0 rfl) ?_
            have hFc := va_free (wc := mWs o r cI cJ S) hD hS hA [0, 1, 2, 3, 4, 5, 6, 7, 8, 9, 10, 11, 12, 13, 14, 15, 16] rfl
            refine va_calli (va_runV (As := [.int v6_1]) (rest := []) ⟨hx, hb, hml, hown, hts⟩ (c_X7_no l dC dI o r cI cJ s.heap.size S v6_1) (cwV 1 hts (gV iX7_no (zin__r4 (.methodLink RX7 139 yX7_no) (List.mem_of_getElem? (i := 14) rfl))) rfl rfl rfl (by decide +kernel) ⟨Nat.le_of_ble_eq_true rfl, Nat.le_of_ble_eq_true rfl⟩) ⟨fun a U g mk q => ⟨q.1, mB_bl q.2⟩, mW_rv hw, fun U hU hW => ⟨rfl, mB_mv hw hD hU hW⟩⟩ rfl rfl hl.1 rfl (lv_room (Nat.le_of_ble_eq_true rfl)) dX7_move_74 ⟨Nat.zero_le _, Nat.zero_le _⟩) hS (fun q _ h => hFc q h) hFc (fun r_74 S_10 t H1 locs ht hvm hw1 hB hz1 hk1 hS => ?_)
            obtain ⟨hP, -, hD1⟩ := hB
            rw [ht] at hP
            have hD := hD1.weaken (fun k q _ h => hFc q.1 h)
            generalize H1 = H at hP hS ⊢
            have hw : mH dC dI o r cI cJ S_10 s H := ⟨hP, hK⟩
            have hm := mA_of hts hw
            have hf : f_X7_move S x1 x2 x3 x4 x5 = (r_74, S_10) := hf.trans (congrArg (fun z => (f_X7_move_1 z)) hw1.symm)
            exact W.iret hx hb hr (fun t ht hW => ⟨⟨_, S_10, rfl, hf.symm, by rw [ht]; exact hP, va_K.moved hW.alike hK, hD⟩, hS.F ht⟩) hS.2.2 dX7_move_77
        · have hf : f_X7_move S x1 x2 x3 x4 x5 = (f_X7_move_1 (f_X7_no S (3 : Int32))) := hf.trans (if_pos c_60)
          refine lv_iconst (v := 3) hx hb dX7_move_63 (by decide) ?_
          refine lv_istore (lv' := [(6, .int (3 : Int32)), (0, .ref o), (1, .int x1), (2, .int x2), (3, .int x3), (4, .int x4), (5, .int x5)]) hx hb dX7_move_64 hl (by decide) rfl (fun ls hl => ?_)
          refine lv_iload hx hb dX7_move_66 (lv_at hl 0 rfl) ?_
          refine lv_if_le (tgt := 78) hx hb dX7_move_68 (by decide) (fun c_68 => ?_) (fun c_68 => ?_)
          · exact absurd c_68 (by decide)
          · refine lv_aload_n hx hb dX7_move_71 rfl (lv_at hl 1 rfl) ?_
            refine lv_iload hx hb dX7_move_72 (lv_at hl 0 rfl) ?_
            have hFc := va_free (wc := mWs o r cI cJ S) hD hS hA [0, 1, 2, 3, 4, 5, 6, 7, 8, 9, 10, 11, 12, 13, 14, 15, 16] rfl
            refine va_calli (va_runV (As := [.int (3 : Int32)]) (rest := []) ⟨hx, hb, hml, hown, hts⟩ (c_X7_no l dC dI o r cI cJ s.heap.size S (3 : Int32)) (cwV 1 hts (gV iX7_no (zin__r4 (.methodLink RX7 139 yX7_no) (List.mem_of_getElem? (i := 14) rfl))) rfl rfl rfl (by decide +kernel) ⟨Nat.le_of_ble_eq_true rfl, Nat.le_of_ble_eq_true rfl⟩) ⟨fun a U g mk q => ⟨q.1, mB_bl q.2⟩, mW_rv hw, fun U hU hW => ⟨rfl, mB_mv hw hD hU hW⟩⟩ rfl rfl hl.1 rfl (lv_room (Nat.le_of_ble_eq_true rfl)) dX7_move_74 ⟨Nat.zero_le _, Nat.zero_le _⟩) hS (fun q _ h => hFc q h) hFc (fun r_74 S_11 t H1 locs ht hvm hw1 hB hz1 hk1 hS => ?_)
            obtain ⟨hP, -, hD1⟩ := hB
            rw [ht] at hP
            have hD := hD1.weaken (fun k q _ h => hFc q.1 h)
            generalize H1 = H at hP hS ⊢
            have hw : mH dC dI o r cI cJ S_11 s H := ⟨hP, hK⟩
            have hm := mA_of hts hw
            have hf : f_X7_move S x1 x2 x3 x4 x5 = (r_74, S_11) := hf.trans (congrArg (fun z => (f_X7_move_1 z)) hw1.symm)
            exact W.iret hx hb hr (fun t ht hW => ⟨⟨_, S_11, rfl, hf.symm, by rw [ht]; exact hP, va_K.moved hW.alike hK, hD⟩, hS.F ht⟩) hS.2.2 dX7_move_77
  · have hf : f_X7_move S x1 x2 x3 x4 x5 = (f_X7_move_10 x3 S x4 v6_1 x1 x2 x5) := hf.trans (if_pos c_10)
    refine lv_iload_n hx hb dX7_move_13 rfl (lv_at hl 4 rfl) ?_
    refine W_cut (α := Unit) (pcJ := 35) (nL := 7) (fun v => f_X7_move S x1 x2 x3 x4 x5 = (f_X7_move_7 S)) (fun v => []) (fun v => [(0, .ref o), (1, .int x1), (2, .int x2), (3, .int x3), (4, .int x4), (5, .int x5)]) (fun v ls hf hl => ?_) (fun K_35 => ?_)
    · have hf : f_X7_move S x1 x2 x3 x4 x5 = (f_X7_move_1 (f_X7_no S (2 : Int32))) := hf
      have hl : lv_has ls 7 [(0, .ref o), (1, .int x1), (2, .int x2), (3, .int x3), (4, .int x4), (5, .int x5)] := hl
      refine lv_iconst (v := 2) hx hb dX7_move_35 (by decide) ?_
      refine lv_istore (lv' := [(6, .int (2 : Int32)), (0, .ref o), (1, .int x1), (2, .int x2), (3, .int x3), (4, .int x4), (5, .int x5)]) hx hb dX7_move_36 hl (by decide) rfl (fun ls hl => ?_)
      refine lv_iload hx hb dX7_move_38 (lv_at hl 0 rfl) ?_
      refine lv_if_ne (tgt := 66) hx hb dX7_move_40 (by decide) (fun c_40 => ?_) (fun c_40 => ?_)
      · refine lv_iload hx hb dX7_move_66 (lv_at hl 0 rfl) ?_
        refine lv_if_le (tgt := 78) hx hb dX7_move_68 (by decide) (fun c_68 => ?_) (fun c_68 => ?_)
        · exact absurd c_68 (by decide)
        · refine lv_aload_n hx hb dX7_move_71 rfl (lv_at hl 1 rfl) ?_
          refine lv_iload hx hb dX7_move_72 (lv_at hl 0 rfl) ?_
          have hFc := va_free (wc := mWs o r cI cJ S) hD hS hA [0, 1, 2, 3, 4, 5, 6, 7, 8, 9, 10, 11, 12, 13, 14, 15, 16] rfl
          refine va_calli (va_runV (As := [.int (2 : Int32)]) (rest := []) ⟨hx, hb, hml, hown, hts⟩ (c_X7_no l dC dI o r cI cJ s.heap.size S (2 : Int32)) (cwV 1 hts (gV iX7_no (zin__r4 (.methodLink RX7 139 yX7_no) (List.mem_of_getElem? (i := 14) rfl))) rfl rfl rfl (by decide +kernel) ⟨Nat.le_of_ble_eq_true rfl, Nat.le_of_ble_eq_true rfl⟩) ⟨fun a U g mk q => ⟨q.1, mB_bl q.2⟩, mW_rv hw, fun U hU hW => ⟨rfl, mB_mv hw hD hU hW⟩⟩ rfl rfl hl.1 rfl (lv_room (Nat.le_of_ble_eq_true rfl)) dX7_move_74 ⟨Nat.zero_le _, Nat.zero_le _⟩) hS (fun q _ h => hFc q h) hFc (fun r_74 S_12 t H1 locs ht hvm hw1 hB hz1 hk1 hS => ?_)
          obtain ⟨hP, -, hD1⟩ := hB
          rw [ht] at hP
          have hD := hD1.weaken (fun k q _ h => hFc q.1 h)
          generalize H1 = H at hP hS ⊢
          have hw : mH dC dI o r cI cJ S_12 s H := ⟨hP, hK⟩
          have hm := mA_of hts hw
          have hf : f_X7_move S x1 x2 x3 x4 x5 = (r_74, S_12) := hf.trans (congrArg (fun z => (f_X7_move_1 z)) hw1.symm)
          exact W.iret hx hb hr (fun t ht hW => ⟨⟨_, S_12, rfl, hf.symm, by rw [ht]; exact hP, va_K.moved hW.alike hK, hD⟩, hS.F ht⟩) hS.2.2 dX7_move_77
      · exact absurd c_40 (by decide)
    refine lv_if_lt (tgt := 35) hx hb dX7_move_14 (by decide) (fun c_14 => ?_) (fun c_14 => ?_)
    · have hf : f_X7_move S x1 x2 x3 x4 x5 = (f_X7_move_7 S) := hf.trans (if_pos c_14)
      exact K_35 () ls hf (lv_sub hl [1, 2, 3, 4, 5, 6] rfl)
    · have hf : f_X7_move S x1 x2 x3 x4 x5 = (f_X7_move_9 S x3 x4 v6_1 x1 x2 x5) := hf.trans (if_neg c_14)
      refine lv_iload_n hx hb dX7_move_17 rfl (lv_at hl 4 rfl) ?_
      refine lv_aload_n hx hb dX7_move_18 rfl (lv_at hl 1 rfl) ?_
      refine va_get (D := (dC, dI)) (ci := 5) (v := .int (nI (mn S))) (C := RX7) (T := TX7) (N := 18) hx hb hts zin_X7 hown hK hP 0 rfl rfl 16 (by decide) (hts _ (zin__r4 (.fieldLink RX7 79 "ReckonBenchModel" "rows" "I") (List.mem_of_getElem? (i := 12) rfl))) (fun _ h9 => h9) rfl dX7_move_19 ?_
      refine lv_icmp_ge (tgt := 35) hx hb dX7_move_22 (by decide) (fun c_22 => ?_) (fun c_22 => ?_)
      · have hf : f_X7_move S x1 x2 x3 x4 x5 = (f_X7_move_7 S) := hf.trans (if_pos c_22)
        exact K_35 () ls hf (lv_sub hl [1, 2, 3, 4, 5, 6] rfl)
      · have hf : f_X7_move S x1 x2 x3 x4 x5 = (f_X7_move_8 S x3 x4 v6_1 x1 x2 x5) := hf.trans (if_neg c_22)
        have hR3 : mRow S x3 := row_of' hI c_14 c_22
        refine lv_aload_n hx hb dX7_move_25 rfl (lv_at hl 1 rfl) ?_
        refine lv_iload_n hx hb dX7_move_26 rfl (lv_at hl 4 rfl) ?_
        refine lv_iload hx hb dX7_move_27 (lv_at hl 5 rfl) ?_
        refine vp_callSi (va_Run.run (va_runV (As := [.int x3, .int x4]) (rest := []) ⟨hx, hb, hml, hown, hts⟩ (c_X7_outside l dC dI o r cI cJ S x3 x4 hI hR3) (cwV 2 hts (gV iX7_outside (zin__r14 (.methodLink RX7 163 yX7_outside) (List.mem_of_getElem? (i := 7) rfl))) rfl rfl rfl (by decide +kernel) ⟨Nat.le_of_ble_eq_true rfl, Nat.le_of_ble_eq_true rfl⟩) ⟨fun a U g mk q => ⟨q.1, mW_bl q.2⟩, (mW_rv hw), fun U hU hW => ⟨rfl, mW_mv hw hU hW⟩⟩ rfl rfl hl.1 rfl (lv_room (Nat.le_of_ble_eq_true rfl)) dX7_move_29 ⟨Nat.zero_le _, Nat.zero_le _⟩)) (fun r_29 hr_29 => ?_)
        subst hr_29
        refine lv_if_eq (tgt := 38) hx hb dX7_move_32 (by decide) (fun c_32 => ?_) (fun c_32 => ?_)
        · have hf : f_X7_move S x1 x2 x3 x4 x5 = (f_X7_move_6 v6_1 S x1 x3 x4 x2 x5) := hf.trans (if_pos c_32)
          refine lv_iload hx hb dX7_move_38 (lv_at hl 0 rfl) ?_
          refine lv_if_ne (tgt := 66) hx hb dX7_move_40 (by decide) (fun c_40 => ?_) (fun c_40 => ?_)
          · have hf : f_X7_move S x1 x2 x3 x4 x5 = (f_X7_move_3 v6_1 S x3 x4 x1 x2) := hf.trans (if_neg c_40)
            refine lv_iload hx hb dX7_move_66 (lv_at hl 0 rfl) ?_
            refine lv_if_le (tgt := 78) hx hb dX7_move_68 (by decide) (fun c_68 => ?_) (fun c_68 => ?_)
            · have hf : f_X7_move S x1 x2 x3 x4 x5 = (f_X7_move_2 (mset_s S (0 : Int32)) x3 x4 x1 x2) := hf.trans (if_pos c_68)
              have hL : mPl S x1 x2 := why_ok hI e_v6_1 c_68
              have hL4 : mPl S x3 x4 := (by first | exact out_ok hI hR3 c_32 | exact absurd (why_zero hI e_v6_1 c_68) c_10)
              refine lv_aload_n hx hb dX7_move_78 rfl (lv_at hl 1 rfl) ?_
              refine lv_iconst (v := 0) hx hb dX7_move_79 (by decide) ?_
              refine va_put (D := (dC, dI)) (ci := 5) (v := .int (0 : Int32)) (ty := .int) (C := RX7) (T := TX7) (N := 18) hx hb hts zin_X7 tyX7 tyX7_ok nmX7 hown hK hP hD hS 0 rfl rfl 17 (by decide) (hts _ (zin__r4 (.fieldLink RX7 75 "ReckonBenchModel" "status" "I") (List.mem_of_getElem? (i := 13) rfl))) (fun _ h9 => h9) rfl (by decide +kernel) rfl rfl (Nat.le_of_ble_eq_true rfl) dX7_move_80 (fun H locs hP hD hS => ?_)
              obtain ⟨S_13, e_S_13⟩ : ∃ z : MSt, z = (mset_s S (0 : Int32)) := ⟨_, rfl⟩
              have hP : va_P (dC, dI) vwCl (mWs o r cI cJ S_13) H := by rw [e_S_13]; exact hP
              have hD : va_D A (mWs o r cI cJ S_13) := by rw [e_S_13]; exact hD
              have hw : mH dC dI o r cI cJ S_13 s H := ⟨hP, hK⟩
              have hm := mA_of hts hw
              have hI : mInv S_13 := by rw [e_S_13]; exact hI
              have hR3 : mRow S_13 x3 := by rw [e_S_13]; exact hR3
              have hL : mPl S_13 x1 x2 := by rw [e_S_13]; exact hL
              have hL4 : mPl S_13 x3 x4 := by rw [e_S_13]; exact hL4
              have hf : f_X7_move S x1 x2 x3 x4 x5 = (f_X7_move_2 S_13 x3 x4 x1 x2) := hf.trans (congrArg (fun z => (f_X7_move_2 z x3 x4 x1 x2)) e_S_13.symm)
              refine lv_aload_n hx hb dX7_move_83 rfl (lv_at hl 1 rfl) ?_
              refine lv_iload_n hx hb dX7_move_84 rfl (lv_at hl 4 rfl) ?_
              refine lv_iload hx hb dX7_move_85 (lv_at hl 5 rfl) ?_
              refine lv_aload_n hx hb dX7_move_87 rfl (lv_at hl 1 rfl) ?_
              refine lv_aload_n hx hb dX7_move_88 rfl (lv_at hl 1 rfl) ?_
              refine va_get (D := (dC, dI)) (ci := 5) (v := .ref (r 8)) (C := RX7) (T := TX7) (N := 18) hx hb hts zin_X7 hown hK hP 0 rfl rfl 8 (by decide) (hts _ (zin__r3 (.fieldLink RX7 51 "ReckonBenchModel" "kinds" "[I") (List.mem_of_getElem? (i := 2) rfl))) (fun _ h9 => h9) rfl dX7_move_89 ?_
              refine lv_iload_n hx hb dX7_move_92 rfl (lv_at hl 2 rfl) ?_
              refine va_iald (f := fun j => nI (mk S_13 j)) hx hb hK hP 9 0 rfl rfl (mRow.in2 hI (mPl.row hL)) dX7_move_93 ?_
              refine lv_aload_n hx hb dX7_move_94 rfl (lv_at hl 1 rfl) ?_
              refine va_get (D := (dC, dI)) (ci := 5) (v := .ref (r 8)) (C := RX7) (T := TX7) (N := 18) hx hb hts zin_X7 hown hK hP 0 rfl rfl 8 (by decide) (hts _ (zin__r3 (.fieldLink RX7 51 "ReckonBenchModel" "kinds" "[I") (List.mem_of_getElem? (i := 2) rfl))) (fun _ h9 => h9) rfl dX7_move_95 ?_
              refine lv_iload_n hx hb dX7_move_98 rfl (lv_at hl 4 rfl) ?_
              refine va_iald (f := fun j => nI (mk S_13 j)) hx hb hK hP 9 0 rfl rfl (mRow.in2 hI (mPl.row hL4)) dX7_move_99 ?_
              refine lv_aload_n hx hb dX7_move_100 rfl (lv_at hl 1 rfl) ?_
              refine lv_iload_n hx hb dX7_move_101 rfl (lv_at hl 2 rfl) ?_
              refine lv_iload_n hx hb dX7_move_102 rfl (lv_at hl 3 rfl) ?_
              refine vp_callSl (va_Run.run (va_runV (As := [.int x1, .int x2]) (rest := [.int (nI (mk S_13 x3.toNatClampNeg)), .int (nI (mk S_13 x1.toNatClampNeg)), .ref o, .int x4, .int x3, .ref o]) ⟨hx, hb, hml, hown, hts⟩ (c_X7_at l dC dI o r cI cJ S_13 x1 x2 (mRow.in0 hI (mPl.row hL)) (mPl.at hI hL)) (cwV 2 hts (gV iX7_at (zin__r11 (.methodLink RX7 155 yX7_at) (List.mem_of_getElem? (i := 2) rfl))) rfl rfl rfl (by decide +kernel) ⟨Nat.le_of_ble_eq_true rfl, Nat.le_of_ble_eq_true rfl⟩) ⟨fun a U g mk q => ⟨q.1, mW_bl q.2⟩, (mW_rv hw), fun U hU hW => ⟨rfl, mW_mv hw hU hW⟩⟩ rfl rfl hl.1 rfl (lv_room (Nat.le_of_ble_eq_true rfl)) dX7_move_103 ⟨Nat.zero_le _, Nat.zero_le _⟩)) (fun r_103 hr_103 => ?_)
              subst hr_103
              refine vp_callSl (va_Run.run (va_runV (As := [.int (nI (mk S_13 x1.toNatClampNeg)), .int (nI (mk S_13 x3.toNatClampNeg)), .long (f_X7_at S_13 x1 x2)]) (rest := [.int x4, .int x3, .ref o]) ⟨hx, hb, hml, hown, hts⟩ (c_X7_turnedTo l o r (mk S_13 x1.toNatClampNeg) (mRow.k hI (mPl.row hL)) (mk S_13 x3.toNatClampNeg) (mRow.k hI (mPl.row hL4)) (f_X7_at S_13 x1 x2) (mPl.cln hI hL)) (cwV 3 hts (gV iX7_turnedTo (zin__r31 (.methodLink RX7 245 yX7_turnedTo) (List.mem_of_getElem? (i := 14) rfl))) rfl rfl rfl (by decide +kernel) ⟨Nat.le_of_ble_eq_true rfl, Nat.le_of_ble_eq_true rfl⟩) ⟨fun a U g mk q => ⟨q.1, mU_bl q.2⟩, (mW_rv hw), fun U hU hW => ⟨rfl, mU_mvH hm hU hW⟩⟩ rfl rfl hl.1 rfl (lv_room (Nat.le_of_ble_eq_true rfl)) dX7_move_106 ⟨Nat.zero_le _, Nat.zero_le _⟩)) (fun r_106 hr_106 => ?_)
              subst hr_106
              have hFc := va_free (wc := mWs o r cI cJ S_13) hD hS hA [0, 1, 2, 3, 4, 5, 6, 7, 8, 9, 10, 11, 12, 13, 14, 15, 16] rfl
              refine va_calli (va_runV (As := [.int x3, .int x4, .long (f_X7_turnedTo (mk S_13 x1.toNatClampNeg) (mk S_13 x3.toNatClampNeg) (f_X7_at S_13 x1 x2))]) (rest := []) ⟨hx, hb, hml, hown, hts⟩ (c_X7_keep l dC dI o r cI cJ H.size S_13 x3 x4 (f_X7_turnedTo (mk S_13 x1.toNatClampNeg) (mk S_13 x3.toNatClampNeg) (f_X7_at S_13 x1 x2)) hI hL4) (cwV 3 hts (gV iX7_keep (zin__r7 (.methodLink RX7 149 yX7_keep) (List.mem_of_getElem? (i := 9) rfl))) rfl rfl rfl (by decide +kernel) ⟨Nat.le_of_ble_eq_true rfl, Nat.le_of_ble_eq_true rfl⟩) ⟨fun a U g mk q => ⟨q.1, mB_bl q.2⟩, mW_rv hw, fun U hU hW => ⟨rfl, mB_mv hw hD hU hW⟩⟩ rfl rfl hl.1 rfl (lv_room (Nat.le_of_ble_eq_true rfl)) dX7_move_109 ⟨Nat.zero_le _, Nat.zero_le _⟩) hS (fun q _ h => hFc q h) hFc (fun r_109 S_14 t H1 locs ht hvm hw1 hB hz1 hk1 hS => ?_)
              obtain ⟨hP, -, hD1⟩ := hB
              rw [ht] at hP
              have hD := hD1.weaken (fun k q _ h => hFc q.1 h)
              generalize H1 = H at hP hS ⊢
              have hw : mH dC dI o r cI cJ S_14 s H := ⟨hP, hK⟩
              have hm := mA_of hts hw
              have hf : f_X7_move S x1 x2 x3 x4 x5 = (r_109, S_14) := hf.trans (congrArg (fun z => (f_X7_move_1 z)) hw1.symm)
              exact W.iret hx hb hr (fun t ht hW => ⟨⟨_, S_14, rfl, hf.symm, by rw [ht]; exact hP, va_K.moved hW.alike hK, hD⟩, hS.F ht⟩) hS.2.2 dX7_move_112
            · have hf : f_X7_move S x1 x2 x3 x4 x5 = (f_X7_move_1 (f_X7_no S v6_1)) := hf.trans (if_neg c_68)
              refine lv_aload_n hx hb dX7_move_71 rfl (lv_at hl 1 rfl) ?_
              refine lv_iload hx hb dX7_move_72 (lv_at hl 0 rfl) ?_
              have hFc := va_free (wc := mWs o r cI cJ S) hD hS hA [0, 1, 2, 3, 4, 5, 6, 7, 8, 9, 10, 11, 12, 13, 14, 15, 16] rfl
              refine va_calli (va_runV (As := [.int v6_1]) (rest := []) ⟨hx, hb, hml, hown, hts⟩ (c_X7_no l dC dI o r cI cJ s.heap.size S v6_1) (cwV 1 hts (gV iX7_no (zin__r4 (.methodLink RX7 139 yX7_no) (List.mem_of_getElem? (i := 14) rfl))) rfl rfl rfl (by decide +kernel) ⟨Nat.le_of_ble_eq_true rfl, Nat.le_of_ble_eq_true rfl⟩) ⟨fun a U g mk q => ⟨q.1, mB_bl q.2⟩, mW_rv hw, fun U hU hW => ⟨rfl, mB_mv hw hD hU hW⟩⟩ rfl rfl hl.1 rfl (lv_room (Nat.le_of_ble_eq_true rfl)) dX7_move_74 ⟨Nat.zero_le _, Nat.zero_le _⟩) hS (fun q _ h => hFc q h) hFc (fun r_74 S_15 t H1 locs ht hvm hw1 hB hz1 hk1 hS => ?_)
              obtain ⟨hP, -, hD1⟩ := hB
              rw [ht] at hP
              have hD := hD1.weaken (fun k q _ h => hFc q.1 h)
              generalize H1 = H at hP hS ⊢
              have hw : mH dC dI o r cI cJ S_15 s H := ⟨hP, hK⟩
              have hm := mA_of hts hw
              have hf : f_X7_move S x1 x2 x3 x4 x5 = (r_74, S_15) := hf.trans (congrArg (fun z => (f_X7_move_1 z)) hw1.symm)
              exact W.iret hx hb hr (fun t ht hW => ⟨⟨_, S_15, rfl, hf.symm, by rw [ht]; exact hP, va_K.moved hW.alike hK, hD⟩, hS.F ht⟩) hS.2.2 dX7_move_77
          · have hf : f_X7_move S x1 x2 x3 x4 x5 = (f_X7_move_5 S x1 x3 v6_1 x4 x2 x5) := hf.trans (if_pos c_40)
            have hL0 : mPl S x1 x2 := why_ok0 hI e_v6_1 c_40
            have hR3 : mRow S x3 := (by first | exact hR3 | exact absurd c_40 c_10)
            refine lv_aload_n hx hb dX7_move_43 rfl (lv_at hl 1 rfl) ?_
            refine va_get (D := (dC, dI)) (ci := 5) (v := .ref (r 8)) (C := RX7) (T := TX7) (N := 18) hx hb hts zin_X7 hown hK hP 0 rfl rfl 8 (by decide) (hts _ (zin__r3 (.fieldLink RX7 51 "ReckonBenchModel" "kinds" "[I") (List.mem_of_getElem? (i := 2) rfl))) (fun _ h9 => h9) rfl dX7_move_44 ?_
            refine lv_iload_n hx hb dX7_move_47 rfl (lv_at hl 2 rfl) ?_
            refine va_iald (f := fun j => nI (mk S j)) hx hb hK hP 9 0 rfl rfl (mRow.in2 hI (mPl.row hL0)) dX7_move_48 ?_
            refine lv_aload_n hx hb dX7_move_49 rfl (lv_at hl 1 rfl) ?_
            refine va_get (D := (dC, dI)) (ci := 5) (v := .ref (r 8)) (C := RX7) (T := TX7) (N := 18) hx hb hts zin_X7 hown hK hP 0 rfl rfl 8 (by decide) (hts _ (zin__r3 (.fieldLink RX7 51 "ReckonBenchModel" "kinds" "[I") (List.mem_of_getElem? (i := 2) rfl))) (fun _ h9 => h9) rfl dX7_move_50 ?_
            refine lv_iload_n hx hb dX7_move_53 rfl (lv_at hl 4 rfl) ?_
            refine va_iald (f := fun j => nI (mk S j)) hx hb hK hP 9 0 rfl rfl (mRow.in2 hI hR3) dX7_move_54 ?_
            refine lv_icmp_eq (tgt := 66) hx hb dX7_move_55 (by decide) (fun c_55 => ?_) (fun c_55 => ?_)
            · have hf : f_X7_move S x1 x2 x3 x4 x5 = (f_X7_move_3 v6_1 S x3 x4 x1 x2) := hf.trans (if_pos c_55)
              refine lv_iload hx hb dX7_move_66 (lv_at hl 0 rfl) ?_
              refine lv_if_le (tgt := 78) hx hb dX7_move_68 (by decide) (fun c_68 => ?_) (fun c_68 => ?_)
              · have hf : f_X7_move S x1 x2 x3 x4 x5 = (f_X7_move_2 (mset_s S (0 : Int32)) x3 x4 x1 x2) := hf.trans (if_pos c_68)
                have hL : mPl S x1 x2 := why_ok hI e_v6_1 c_68
                have hL4 : mPl S x3 x4 := (by first | exact out_ok hI hR3 c_32 | exact absurd (why_zero hI e_v6_1 c_68) c_10)
                refine lv_aload_n hx hb dX7_move_78 rfl (lv_at hl 1 rfl) ?_
                refine lv_iconst (v := 0) hx hb dX7_move_79 (by decide) ?_
                refine va_put (D := (dC, dI)) (ci := 5) (v := .int (0 : Int32)) (ty := .int) (C := RX7) (T := TX7) (N := 18) hx hb hts zin_X7 tyX7 tyX7_ok nmX7 hown hK hP hD hS 0 rfl rfl 17 (by decide) (hts _ (zin__r4 (.fieldLink RX7 75 "ReckonBenchModel" "status" "I") (List.mem_of_getElem? (i := 13) rfl))) (fun _ h9 => h9) rfl (by decide +kernel) rfl rfl (Nat.le_of_ble_eq_true rfl) dX7_move_80 (fun H locs hP hD hS => ?_)
                obtain ⟨S_16, e_S_16⟩ : ∃ z : MSt, z = (mset_s S (0 : Int32)) := ⟨_, rfl⟩
                have hP : va_P (dC, dI) vwCl (mWs o r cI cJ S_16) H := by rw [e_S_16]; exact hP
                have hD : va_D A (mWs o r cI cJ S_16) := by rw [e_S_16]; exact hD
                have hw : mH dC dI o r cI cJ S_16 s H := ⟨hP, hK⟩
                have hm := mA_of hts hw
                have hI : mInv S_16 := by rw [e_S_16]; exact hI
                have hL0 : mPl S_16 x1 x2 := by rw [e_S_16]; exact hL0
                have hR3 : mRow S_16 x3 := by rw [e_S_16]; exact hR3
                have hL : mPl S_16 x1 x2 := by rw [e_S_16]; exact hL
                have hL4 : mPl S_16 x3 x4 := by rw [e_S_16]; exact hL4
                have hf : f_X7_move S x1 x2 x3 x4 x5 = (f_X7_move_2 S_16 x3 x4 x1 x2) := hf.trans (congrArg (fun z => (f_X7_move_2 z x3 x4 x1 x2)) e_S_16.symm)
                refine lv_aload_n hx hb dX7_move_83 rfl (lv_at hl 1 rfl) ?_
                refine lv_iload_n hx hb dX7_move_84 rfl (lv_at hl 4 rfl) ?_
                refine lv_iload hx hb dX7_move_85 (lv_at hl 5 rfl) ?_
                refine lv_aload_n hx hb dX7_move_87 rfl (lv_at hl 1 rfl) ?_
                refine lv_aload_n hx hb dX7_move_88 rfl (lv_at hl 1 rfl) ?_
                refine va_get (D := (dC, dI)) (ci := 5) (v := .ref (r 8)) (C := RX7) (T := TX7) (N := 18) hx hb hts zin_X7 hown hK hP 0 rfl rfl 8 (by decide) (hts _ (zin__r3 (.fieldLink RX7 51 "ReckonBenchModel" "kinds" "[I") (List.mem_of_getElem? (i := 2) rfl))) (fun _ h9 => h9) rfl dX7_move_89 ?_
                refine lv_iload_n hx hb dX7_move_92 rfl (lv_at hl 2 rfl) ?_
                refine va_iald (f := fun j => nI (mk S_16 j)) hx hb hK hP 9 0 rfl rfl (mRow.in2 hI (mPl.row hL)) dX7_move_93 ?_
                refine lv_aload_n hx hb dX7_move_94 rfl (lv_at hl 1 rfl) ?_
                refine va_get (D := (dC, dI)) (ci := 5) (v := .ref (r 8)) (C := RX7) (T := TX7) (N := 18) hx hb hts zin_X7 hown hK hP 0 rfl rfl 8 (by decide) (hts _ (zin__r3 (.fieldLink RX7 51 "ReckonBenchModel" "kinds" "[I") (List.mem_of_getElem? (i := 2) rfl))) (fun _ h9 => h9) rfl dX7_move_95 ?_
                refine lv_iload_n hx hb dX7_move_98 rfl (lv_at hl 4 rfl) ?_
                refine va_iald (f := fun j => nI (mk S_16 j)) hx hb hK hP 9 0 rfl rfl (mRow.in2 hI (mPl.row hL4)) dX7_move_99 ?_
                refine lv_aload_n hx hb dX7_move_100 rfl (lv_at hl 1 rfl) ?_
                refine lv_iload_n hx hb dX7_move_101 rfl (lv_at hl 2 rfl) ?_
                refine lv_iload_n hx hb dX7_move_102 rfl (lv_at hl 3 rfl) ?_
                refine vp_callSl (va_Run.run (va_runV (As := [.int x1, .int x2]) (rest := [.int (nI (mk S_16 x3.toNatClampNeg)), .int (nI (mk S_16 x1.toNatClampNeg)), .ref o, .int x4, .int x3, .ref o]) ⟨hx, hb, hml, hown, hts⟩ (c_X7_at l dC dI o r cI cJ S_16 x1 x2 (mRow.in0 hI (mPl.row hL)) (mPl.at hI hL)) (cwV 2 hts (gV iX7_at (zin__r11 (.methodLink RX7 155 yX7_at) (List.mem_of_getElem? (i := 2) rfl))) rfl rfl rfl (by decide +kernel) ⟨Nat.le_of_ble_eq_true rfl, Nat.le_of_ble_eq_true rfl⟩) ⟨fun a U g mk q => ⟨q.1, mW_bl q.2⟩, (mW_rv hw), fun U hU hW => ⟨rfl, mW_mv hw hU hW⟩⟩ rfl rfl hl.1 rfl (lv_room (Nat.le_of_ble_eq_true rfl)) dX7_move_103 ⟨Nat.zero_le _, Nat.zero_le _⟩)) (fun r_103 hr_103 => ?_)
                subst hr_103
                refine vp_callSl (va_Run.run (va_runV (As := [.int (nI (mk S_16 x1.toNatClampNeg)), .int (nI (mk S_16 x3.toNatClampNeg)), .long (f_X7_at S_16 x1 x2)]) (rest := [.int x4, .int x3, .ref o]) ⟨hx, hb, hml, hown, hts⟩ (c_X7_turnedTo l o r (mk S_16 x1.toNatClampNeg) (mRow.k hI (mPl.row hL)) (mk S_16 x3.toNatClampNeg) (mRow.k hI (mPl.row hL4)) (f_X7_at S_16 x1 x2) (mPl.cln hI hL)) (cwV 3 hts (gV iX7_turnedTo (zin__r31 (.methodLink RX7 245 yX7_turnedTo) (List.mem_of_getElem? (i := 14) rfl))) rfl rfl rfl (by decide +kernel) ⟨Nat.le_of_ble_eq_true rfl, Nat.le_of_ble_eq_true rfl⟩) ⟨fun a U g mk q => ⟨q.1, mU_bl q.2⟩, (mW_rv hw), fun U hU hW => ⟨rfl, mU_mvH hm hU hW⟩⟩ rfl rfl hl.1 rfl (lv_room (Nat.le_of_ble_eq_true rfl)) dX7_move_106 ⟨Nat.zero_le _, Nat.zero_le _⟩)) (fun r_106 hr_106 => ?_)
                subst hr_106
                have hFc := va_free (wc := mWs o r cI cJ S_16) hD hS hA [0, 1, 2, 3, 4, 5, 6, 7, 8, 9, 10, 11, 12, 13, 14, 15, 16] rfl
                refine va_calli (va_runV (As := [.int x3, .int x4, .long (f_X7_turnedTo (mk S_16 x1.toNatClampNeg) (mk S_16 x3.toNatClampNeg) (f_X7_at S_16 x1 x2))]) (rest := []) ⟨hx, hb, hml, hown, hts⟩ (c_X7_keep l dC dI o r cI cJ H.size S_16 x3 x4 (f_X7_turnedTo (mk S_16 x1.toNatClampNeg) (mk S_16 x3.toNatClampNeg) (f_X7_at S_16 x1 x2)) hI hL4) (cwV 3 hts (gV iX7_keep (zin__r7 (.methodLink RX7 149 yX7_keep) (List.mem_of_getElem? (i := 9) rfl))) rfl rfl rfl (by decide +kernel) ⟨Nat.le_of_ble_eq_true rfl, Nat.le_of_ble_eq_true rfl⟩) ⟨fun a U g mk q => ⟨q.1, mB_bl q.2⟩, mW_rv hw, fun U hU hW => ⟨rfl, mB_mv hw hD hU hW⟩⟩ rfl rfl hl.1 rfl (lv_room (Nat.le_of_ble_eq_true rfl)) dX7_move_109 ⟨Nat.zero_le _, Nat.zero_le _⟩) hS (fun q _ h => hFc q h) hFc (fun r_109 S_17 t H1 locs ht hvm hw1 hB hz1 hk1 hS => ?_)
                obtain ⟨hP, -, hD1⟩ := hB
                rw [ht] at hP
                have hD := hD1.weaken (fun k q _ h => hFc q.1 h)
                generalize H1 = H at hP hS ⊢
                have hw : mH dC dI o r cI cJ S_17 s H := ⟨hP, hK⟩
                have hm := mA_of hts hw
                have hf : f_X7_move S x1 x2 x3 x4 x5 = (r_109, S_17) := hf.trans (congrArg (fun z => (f_X7_move_1 z)) hw1.symm)
                exact W.iret hx hb hr (fun t ht hW => ⟨⟨_, S_17, rfl, hf.symm, by rw [ht]; exact hP, va_K.moved hW.alike hK, hD⟩, hS.F ht⟩) hS.2.2 dX7_move_112
              · have hf : f_X7_move S x1 x2 x3 x4 x5 = (f_X7_move_1 (f_X7_no S v6_1)) := hf.trans (if_neg c_68)
                refine lv_aload_n hx hb dX7_move_71 rfl (lv_at hl 1 rfl) ?_
                refine lv_iload hx hb dX7_move_72 (lv_at hl 0 rfl) ?_
                have hFc := va_free (wc := mWs o r cI cJ S) hD hS hA [0, 1, 2, 3, 4, 5, 6, 7, 8, 9, 10, 11, 12, 13, 14, 15, 16] rfl
                refine va_calli (va_runV (As := [.int v6_1]) (rest := []) ⟨hx, hb, hml, hown, hts⟩ (c_X7_no l dC dI o r cI cJ s.heap.size S v6_1) (cwV 1 hts (gV iX7_no (zin__r4 (.methodLink RX7 139 yX7_no) (List.mem_of_getElem? (i := 14) rfl))) rfl rfl rfl (by decide +kernel) ⟨Nat.le_of_ble_eq_true rfl, Nat.le_of_ble_eq_true rfl⟩) ⟨fun a U g mk q => ⟨q.1, mB_bl q.2⟩, mW_rv hw, fun U hU hW => ⟨rfl, mB_mv hw hD hU hW⟩⟩ rfl rfl hl.1 rfl (lv_room (Nat.le_of_ble_eq_true rfl)) dX7_move_74 ⟨Nat.zero_le _, Nat.zero_le _⟩) hS (fun q _ h => hFc q h) hFc (fun r_74 S_18 t H1 locs ht hvm hw1 hB hz1 hk1 hS => ?_)
                obtain ⟨hP, -, hD1⟩ := hB
                rw [ht] at hP
                have hD := hD1.weaken (fun k q _ h => hFc q.1 h)
                generalize H1 = H at hP hS ⊢
                have hw : mH dC dI o r cI cJ S_18 s H := ⟨hP, hK⟩
                have hm := mA_of hts hw
                have hf : f_X7_move S x1 x2 x3 x4 x5 = (r_74, S_18) := hf.trans (congrArg (fun z => (f_X7_move_1 z)) hw1.symm)
                exact W.iret hx hb hr (fun t ht hW => ⟨⟨_, S_18, rfl, hf.symm, by rw [ht]; exact hP, va_K.moved hW.alike hK, hD⟩, hS.F ht⟩) hS.2.2 dX7_move_77
            · have hf : f_X7_move S x1 x2 x3 x4 x5 = (f_X7_move_4 x5 S v6_1 x3 x4 x1 x2) := hf.trans (if_neg c_55)
              refine lv_iload hx hb dX7_move_58 (lv_at hl 6 rfl) ?_
              refine lv_if_ne (tgt := 66) hx hb dX7_move_60 (by decide) (fun c_60 => ?_) (fun c_60 => ?_)
              · have hf : f_X7_move S x1 x2 x3 x4 x5 = (f_X7_move_3 v6_1 S x3 x4 x1 x2) := hf.trans (if_neg c_60)
                refine lv_iload hx hb dX7_move_66 (lv_at hl 0 rfl) ?_
                refine lv_if_le (tgt := 78) hx hb dX7_move_68 (by decide) (fun c_68 => ?_) (fun c_68 => ?_)
                · have hf : f_X7_move S x1 x2 x3 x4 x5 = (f_X7_move_2 (mset_s S (0 : Int32)) x3 x4 x1 x2) := hf.trans (if_pos c_68)
                  have hL : mPl S x1 x2 := why_ok hI e_v6_1 c_68
                  have hL4 : mPl S x3 x4 := (by first | exact out_ok hI hR3 c_32 | exact absurd (why_zero hI e_v6_1 c_68) c_10)
                  refine lv_aload_n hx hb dX7_move_78 rfl (lv_at hl 1 rfl) ?_
                  refine lv_iconst (v := 0) hx hb dX7_move_79 (by decide) ?_
                  refine va_put (D := (dC, dI)) (ci := 5) (v := .int (0 : Int32)) (ty := .int) (C := RX7) (T := TX7) (N := 18) hx hb hts zin_X7 tyX7 tyX7_ok nmX7 hown hK hP hD hS 0 rfl rfl 17 (by decide) (hts _ (zin__r4 (.fieldLink RX7 75 "ReckonBenchModel" "status" "I") (List.mem_of_getElem? (i := 13) rfl))) (fun _ h9 => h9) rfl (by decide +kernel) rfl rfl (Nat.le_of_ble_eq_true rfl) dX7_move_80 (fun H locs hP hD hS => ?_)
                  obtain ⟨S_19, e_S_19⟩ : ∃ z : MSt, z = (mset_s S (0 : Int32)) := ⟨_, rfl⟩
                  have hP : va_P (dC, dI) vwCl (mWs o r cI cJ S_19) H := by rw [e_S_19]; exact hP
                  have hD : va_D A (mWs o r cI cJ S_19) := by rw [e_S_19]; exact hD
                  have hw : mH dC dI o r cI cJ S_19 s H := ⟨hP, hK⟩
                  have hm := mA_of hts hw
                  have hI : mInv S_19 := by rw [e_S_19]; exact hI
                  have hL0 : mPl S_19 x1 x2 := by rw [e_S_19]; exact hL0
                  have hR3 : mRow S_19 x3 := by rw [e_S_19]; exact hR3
                  have hL : mPl S_19 x1 x2 := by rw [e_S_19]; exact hL
                  have hL4 : mPl S_19 x3 x4 := by rw [e_S_19]; exact hL4
                  have hf : f_X7_move S x1 x2 x3 x4 x5 = (f_X7_move_2 S_19 x3 x4 x1 x2) := hf.trans (congrArg (fun z => (f_X7_move_2 z x3 x4 x1 x2)) e_S_19.symm)
                  refine lv_aload_n hx hb dX7_move_83 rfl (lv_at hl 1 rfl) ?_
                  refine lv_iload_n hx hb dX7_move_84 rfl (lv_at hl 4 rfl) ?_
                  refine lv_iload hx hb dX7_move_85 (lv_at hl 5 rfl) ?_
                  refine lv_aload_n hx hb dX7_move_87 rfl (lv_at hl 1 rfl) ?_
                  refine lv_aload_n hx hb dX7_move_88 rfl (lv_at hl 1 rfl) ?_
                  refine va_get (D := (dC, dI)) (ci := 5) (v := .ref (r 8)) (C := RX7) (T := TX7) (N := 18) hx hb hts zin_X7 hown hK hP 0 rfl rfl 8 (by decide) (hts _ (zin__r3 (.fieldLink RX7 51 "ReckonBenchModel" "kinds" "[I") (List.mem_of_getElem? (i := 2) rfl))) (fun _ h9 => h9) rfl dX7_move_89 ?_
                  refine lv_iload_n hx hb dX7_move_92 rfl (lv_at hl 2 rfl) ?_
                  refine va_iald (f := fun j => nI (mk S_19 j)) hx hb hK hP 9 0 rfl rfl (mRow.in2 hI (mPl.row hL)) dX7_move_93 ?_
                  refine lv_aload_n hx hb dX7_move_94 rfl (lv_at hl 1 rfl) ?_
                  refine va_get (D := (dC, dI)) (ci := 5) (v := .ref (r 8)) (C := RX7) (T := TX7) (N := 18) hx hb hts zin_X7 hown hK hP 0 rfl rfl 8 (by decide) (hts _ (zin__r3 (.fieldLink RX7 51 "ReckonBenchModel" "kinds" "[I") (List.mem_of_getElem? (i := 2) rfl))) (fun _ h9 => h9) rfl dX7_move_95 ?_
                  refine lv_iload_n hx hb dX7_move_98 rfl (lv_at hl 4 rfl) ?_
                  refine va_iald (f := fun j => nI (mk S_19 j)) hx hb hK hP 9 0 rfl rfl (mRow.in2 hI (mPl.row hL4)) dX7_move_99 ?_
                  refine lv_aload_n hx hb dX7_move_100 rfl (lv_at hl 1 rfl) ?_
                  refine lv_iload_n hx hb dX7_move_101 rfl (lv_at hl 2 rfl) ?_
                  refine lv_iload_n hx hb dX7_move_102 rfl (lv_at hl 3 rfl) ?_
                  refine vp_callSl (va_Run.run (va_runV (As := [.int x1, .int x2]) (rest := [.int (nI (mk S_19 x3.toNatClampNeg)), .int (nI (mk S_19 x1.toNatClampNeg)), .ref o, .int x4, .int x3, .ref o]) ⟨hx, hb, hml, hown, hts⟩ (c_X7_at l dC dI o r cI cJ S_19 x1 x2 (mRow.in0 hI (mPl.row hL)) (mPl.at hI hL)) (cwV 2 hts (gV iX7_at (zin__r11 (.methodLink RX7 155 yX7_at) (List.mem_of_getElem? (i := 2) rfl))) rfl rfl rfl (by decide +kernel) ⟨Nat.le_of_ble_eq_true rfl, Nat.le_of_ble_eq_true rfl⟩) ⟨fun a U g mk q => ⟨q.1, mW_bl q.2⟩, (mW_rv hw), fun U hU hW => ⟨rfl, mW_mv hw hU hW⟩⟩ rfl rfl hl.1 rfl (lv_room (Nat.le_of_ble_eq_true rfl)) dX7_move_103 ⟨Nat.zero_le _, Nat.zero_le _⟩)) (fun r_103 hr_103 => ?_)
                  subst hr_103
                  refine vp_callSl (va_Run.run (va_runV (As := [.int (nI (mk S_19 x1.toNatClampNeg)), .int (nI (mk S_19 x3.toNatClampNeg)), .long (f_X7_at S_19 x1 x2)]) (rest := [.int x4, .int x3, .ref o]) ⟨hx, hb, hml, hown, hts⟩ (c_X7_turnedTo l o r (mk S_19 x1.toNatClampNeg) (mRow.k hI (mPl.row hL)) (mk S_19 x3.toNatClampNeg) (mRow.k hI (mPl.row hL4)) (f_X7_at S_19 x1 x2) (mPl.cln hI hL)) (cwV 3 hts (gV iX7_turnedTo (zin__r31 (.methodLink RX7 245 yX7_turnedTo) (List.mem_of_getElem? (i := 14) rfl))) rfl rfl rfl (by decide +kernel) ⟨Nat.le_of_ble_eq_true rfl, Nat.le_of_ble_eq_true rfl⟩) ⟨fun a U g mk q => ⟨q.1, mU_bl q.2⟩, (mW_rv hw), fun U hU hW => ⟨rfl, mU_mvH hm hU hW⟩⟩ rfl rfl hl.1 rfl (lv_room (Nat.le_of_ble_eq_true rfl)) dX7_move_106 ⟨Nat.zero_le _, Nat.zero_le _⟩)) (fun r_106 hr_106 => ?_)
                  subst hr_106
                  have hFc := va_free (wc := mWs o r cI cJ S_19) hD hS hA [0, 1, 2, 3, 4, 5, 6, 7, 8, 9, 10, 11, 12, 13, 14, 15, 16] rfl
                  refine va_calli (va_runV (As := [.int x3, .int x4, .long (f_X7_turnedTo (mk S_19 x1.toNatClampNeg) (mk S_19 x3.toNatClampNeg) (f_X7_at S_19 x1 x2))]) (rest := []) ⟨hx, hb, hml, hown, hts⟩ (c_X7_keep l dC dI o r cI cJ H.size S_19 x3 x4 (f_X7_turnedTo (mk S_19 x1.toNatClampNeg) (mk S_19 x3.toNatClampNeg) (f_X7_at S_19 x1 x2)) hI hL4) (cwV 3 hts (gV iX7_keep (zin__r7 (.methodLink RX7 149 yX7_keep) (List.mem_of_getElem? (i := 9) rfl))) rfl rfl rfl (by decide +kernel) ⟨Nat.le_of_ble_eq_true rfl, Nat.le_of_ble_eq_true rfl⟩) ⟨fun a U g mk q => ⟨q.1, mB_bl q.2⟩, mW_rv hw, fun U hU hW => ⟨rfl, mB_mv hw hD hU hW⟩⟩ rfl rfl hl.1 rfl (lv_room (Nat.le_of_ble_eq_true rfl)) dX7_move_109 ⟨Nat.zero_le _, Nat.zero_le _⟩) hS (fun q _ h => hFc q h) hFc (fun r_109 S_20 t H1 locs ht hvm hw1 hB hz1 hk1 hS => ?_)
                  obtain ⟨hP, -, hD1⟩ := hB
                  rw [ht] at hP
                  have hD := hD1.weaken (fun k q _ h => hFc q.1 h)
                  generalize H1 = H at hP hS ⊢
                  have hw : mH dC dI o r cI cJ S_20 s H := ⟨hP, hK⟩
                  have hm := mA_of hts hw
                  have hf : f_X7_move S x1 x2 x3 x4 x5 = (r_109, S_20) := hf.trans (congrArg (fun z => (f_X7_move_1 z)) hw1.symm)
                  exact W.iret hx hb hr (fun t ht hW => ⟨⟨_, S_20, rfl, hf.symm, by rw [ht]; exact hP, va_K.moved hW.alike hK, hD⟩, hS.F ht⟩) hS.2.2 dX7_move_112
                · have hf : f_X7_move S x1 x2 x3 x4 x5 = (f_X7_move_1 (f_X7_no S v6_1)) := hf.trans (if_neg c_68)
                  refine lv_aload_n hx hb dX7_move_71 rfl (lv_at hl 1 rfl) ?_
                  refine lv_iload hx hb dX7_move_72 (lv_at hl 0 rfl) ?_
                  have hFc := va_free (wc := mWs o r cI cJ S) hD hS hA [0, 1, 2, 3, 4, 5, 6, 7, 8, 9, 10, 11, 12, 13, 14, 15, 16] rfl
                  refine va_calli (va_runV (As := [.int v6_1]) (rest := []) ⟨hx, hb, hml, hown, hts⟩ (c_X7_no l dC dI o r cI cJ s.heap.size S v6_1) (cwV 1 hts (gV iX7_no (zin__r4 (.methodLink RX7 139 yX7_no) (List.mem_of_getElem? (i := 14) rfl))) rfl rfl rfl (by decide +kernel) ⟨Nat.le_of_ble_eq_true rfl, Nat.le_of_ble_eq_true rfl⟩) ⟨fun a U g mk q => ⟨q.1, mB_bl q.2⟩, mW_rv hw, fun U hU hW => ⟨rfl, mB_mv hw hD hU hW⟩⟩ rfl rfl hl.1 rfl (lv_room (Nat.le_of_ble_eq_true rfl)) dX7_move_74 ⟨Nat.zero_le _, Nat.zero_le _⟩) hS (fun q _ h => hFc q h) hFc (fun r_74 S_21 t H1 locs ht hvm hw1 hB hz1 hk1 hS => ?_)
                  obtain ⟨hP, -, hD1⟩ := hB
                  rw [ht] at hP
                  have hD := hD1.weaken (fun k q _ h => hFc q.1 h)
                  generalize H1 = H at hP hS ⊢
                  have hw : mH dC dI o r cI cJ S_21 s H := ⟨hP, hK⟩
                  have hm := mA_of hts hw
                  have hf : f_X7_move S x1 x2 x3 x4 x5 = (r_74, S_21) := hf.trans (congrArg (fun z => (f_X7_move_1 z)) hw1.symm)
                  exact W.iret hx hb hr (fun t ht hW => ⟨⟨_, S_21, rfl, hf.symm, by rw [ht]; exact hP, va_K.moved hW.alike hK, hD⟩, hS.F ht⟩) hS.2.2 dX7_move_77
              · have hf : f_X7_move S x1 x2 x3 x4 x5 = (f_X7_move_1 (f_X7_no S (3 : Int32))) := hf.trans (if_pos c_60)
                refine lv_iconst (v := 3) hx hb dX7_move_63 (by decide) ?_
                refine lv_istore (lv' := [(6, .int (3 : Int32)), (0, .ref o), (1, .int x1), (2, .int x2), (3, .int x3), (4, .int x4), (5, .int x5)]) hx hb dX7_move_64 hl (by decide) rfl (fun ls hl => ?_)
                refine lv_iload hx hb dX7_move_66 (lv_at hl 0 rfl) ?_
                refine lv_if_le (tgt := 78) hx hb dX7_move_68 (by decide) (fun c_68 => ?_) (fun c_68 => ?_)
                · exact absurd c_68 (by decide)
                · refine lv_aload_n hx hb dX7_move_71 rfl (lv_at hl 1 rfl) ?_
                  refine lv_iload hx hb dX7_move_72 (lv_at hl 0 rfl) ?_
                  have hFc := va_free (wc := mWs o r cI cJ S) hD hS hA [0, 1, 2, 3, 4, 5, 6, 7, 8, 9, 10, 11, 12, 13, 14, 15, 16] rfl
                  refine va_calli (va_runV (As := [.int (3 : Int32)]) (rest := []) ⟨hx, hb, hml, hown, hts⟩ (c_X7_no l dC dI o r cI cJ s.heap.size S (3 : Int32)) (cwV 1 hts (gV iX7_no (zin__r4 (.methodLink RX7 139 yX7_no) (List.mem_of_getElem? (i := 14) rfl))) rfl rfl rfl (by decide +kernel) ⟨Nat.le_of_ble_eq_true rfl, Nat.le_of_ble_eq_true rfl⟩) ⟨fun a U g mk q => ⟨q.1, mB_bl q.2⟩, mW_rv hw, fun U hU hW => ⟨rfl, mB_mv hw hD hU hW⟩⟩ rfl rfl hl.1 rfl (lv_room (Nat.le_of_ble_eq_true rfl)) dX7_move_74 ⟨Nat.zero_le _, Nat.zero_le _⟩) hS (fun q _ h => hFc q h) hFc (fun r_74 S_22 t H1 locs ht hvm hw1 hB hz1 hk1 hS => ?_)
                  obtain ⟨hP, -, hD1⟩ := hB
                  rw [ht] at hP
                  have hD := hD1.weaken (fun k q _ h => hFc q.1 h)
                  generalize H1 = H at hP hS ⊢
                  have hw : mH dC dI o r cI cJ S_22 s H := ⟨hP, hK⟩
                  have hm := mA_of hts hw
                  have hf : f_X7_move S x1 x2 x3 x4 x5 = (r_74, S_22) := hf.trans (congrArg (fun z => (f_X7_move_1 z)) hw1.symm)
                  exact W.iret hx hb hr (fun t ht hW => ⟨⟨_, S_22, rfl, hf.symm, by rw [ht]; exact hP, va_K.moved hW.alike hK, hD⟩, hS.F ht⟩) hS.2.2 dX7_move_77
        · have hf : f_X7_move S x1 x2 x3 x4 x5 = (f_X7_move_7 S) := hf.trans (if_neg c_32)
          exact K_35 () ls hf (lv_sub hl [1, 2, 3, 4, 5, 6] rfl)
