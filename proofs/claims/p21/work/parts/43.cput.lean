def f_X3_put (S : Nat → Int64) (w_k : Nat) (x1 : Int32) (x2 : Int64) : Int32 × (Nat → Int64) := ((f_X1_sortOf w_k x2), (rset S (vp_updL (S) x1.toNatClampNeg x2)))
def zX3_put : List Cond := .code yX3_put cX3_put 4 (some .int) :: zall
theorem iX3_put : MWv RX3 yX3_put (.code yX3_put cX3_put 4 (some .int)) := ⟨(zin__r4 (.instanceMethod yX3_put) (List.mem_of_getElem? (i := 10) rfl)), (zin__r4 (.selects RX3 yX3_put yX3_put) (List.mem_of_getElem? (i := 11) rfl)), (zin__r2 (.initialized RX3) (List.mem_of_getElem? (i := 11) rfl)), (zin__r4 (.code yX3_put cX3_put 4 (some .int)) (List.mem_of_getElem? (i := 12) rfl))⟩
set_option maxHeartbeats 4000000 in
set_option maxRecDepth 100000 in
theorem c_X3_put (l : Launch) (dC : Nat → ClassId) (dI : Nat → Nat → Nat) (ad : Nat → Nat) (w w_k w_na w_n : Nat) (h_w_k : w_k < 2) (cJ : ClassId) (sz : Nat) (S : Nat → Int64) (x1 : Int32) (x2 : Int64) (h1 : vp_in x1 w_n) : Met l yX3_put zX3_put ({ frames := 3, cells := 0, slots := 0, locals := 69 }) (va_Pc [.ref w, .int x1, .long x2] (fun U => rB dC dI ad w w_k w_na w_n cJ sz S U)) (va_Qi (fun r9 S9 => (r9, S9) = f_X3_put S w_k x1 x2) (rE dC dI ad w w_k w_na w_n cJ (va_A (rWs ad w w_k w_na w_n cJ S) sz)) (va_A (rWs ad w w_k w_na w_n cJ S) sz)) 0 0 (va_A (rWs ad w w_k w_na w_n cJ S) sz) := by
  refine Met.ofW (cc := cX3_put) (maxL := 4) (ret := (some .int)) (by decide) rfl ?_
  intro p e s m args below meth c s₁ B hml hv
  obtain ⟨rfl, hsz, hP, hK, hD0, hkA⟩ := hv
  have hx := B.exec
  have hb := B.bytes
  have hr := B.returns
  have hts : ∀ w ∈ zall, w.before _ s = true := fun w h => atoms_spec (ws := zX3_put) B.pre w (List.mem_cons_of_mem _ h)
  have hown : s.vm.findClass RX3 = some m.cls := findClass_of_methodNamed B.named
  have hlocks := B.notSynchronized
  subst hsz
  have hD := hD0.self (sz := s.heap.size)
  generalize hAe : va_A (rWs ad w w_k w_na w_n cJ S) s.heap.size = A at hD hkA ⊢
  have hA : ∀ q : Nat, s.heap.size ≤ q → A q := fun q h => by rw [← hAe]; exact Or.inr h
  have hS : va_S A s.heap s.heap [] := va_S.rf
  have hw : rWH dC dI ad w w_k w_na w_n cJ S s s.heap := ⟨hP, hK⟩
  have hk := kA_at hkA hS
  have hl := lv_entry ([.ref w, .int x1, .long x2]) (n := 4) (Nat.le_of_ble_eq_true rfl)
  rw [lg_entry_eq]
  generalize (lg_sl ([.ref w, .int x1, .long x2]) ++ List.replicate (4 - (lg_sl ([.ref w, .int x1, .long x2])).length) Slot.unset).toArray = ls at hl ⊢
  have hl : lv_has ls 4 [(0, .ref w), (1, .int x1), (2, .long x2)] := hl
  have hf : f_X3_put S w_k x1 x2 = ((f_X1_sortOf w_k x2), (rset S (vp_updL (S) x1.toNatClampNeg x2))) := rfl
  refine lv_aload_n hx hb dX3_put_0 rfl (lv_at hl 0 rfl) ?_
  refine va_get (D := (dC, dI)) (ci := 2) (v := .ref w_na) (C := RX3) (T := TX3) (N := 2) hx hb hts zin_X3 hown hK hP 0 rfl rfl 1 (by decide) (hts _ (zin__r2 (.fieldLink RX3 15 "ReckonBench$Row" "numbers" "[J") (List.mem_of_getElem? (i := 23) rfl))) (fun _ h9 => h9) rfl dX3_put_1 ?_
  refine lv_iload_n hx hb dX3_put_4 rfl (lv_at hl 1 rfl) ?_
  refine lv_lload_n hx hb dX3_put_5 rfl (lv_at hl 2 rfl) ?_
  refine va_last (f := S) hx hb hK hP hD hS 1 0 rfl rfl h1 dX3_put_6 (fun H locs hP hD hS => ?_)
  obtain ⟨S_1, e_S_1⟩ : ∃ z : Nat → Int64, z = (rset S (vp_updL (S) x1.toNatClampNeg x2)) := ⟨_, rfl⟩
  have hP : va_P (dC, dI) vwCl (rWs ad w w_k w_na w_n cJ S_1) H := by rw [e_S_1]; exact hP
  have hD : va_D A (rWs ad w w_k w_na w_n cJ S_1) := by rw [e_S_1]; exact hD
  have hw : rWH dC dI ad w w_k w_na w_n cJ S_1 s H := ⟨hP, hK⟩
  have hk := kA_at hkA hS
  have hf : f_X3_put S w_k x1 x2 = ((f_X1_sortOf w_k x2), S_1) := hf.trans (congrArg (fun z => ((f_X1_sortOf w_k x2), z)) e_S_1.symm)
  refine lv_aload_n hx hb dX3_put_7 rfl (lv_at hl 0 rfl) ?_
  refine va_get (D := (dC, dI)) (ci := 2) (v := .ref (ad w_k)) (C := RX3) (T := TX3) (N := 2) hx hb hts zin_X3 hown hK hP 0 rfl rfl 0 (by decide) (hts _ (zin__r2 (.fieldLink RX3 9 "ReckonBench$Row" "kind" "LReckonBench$Kind;") (List.mem_of_getElem? (i := 22) rfl))) (fun _ h9 => h9) rfl dX3_put_8 ?_
  refine lv_lload_n hx hb dX3_put_11 rfl (lv_at hl 2 rfl) ?_
  refine vp_callSi (va_Run.run (va_runV (As := [.long x2]) (rest := []) ⟨hx, hb, hml, hown, hts⟩ (c_X1_sortOf l ad w_k h_w_k x2) (cwV 1 hts (gV iX1_sortOf (zin__r4 (.methodLink RX3 19 yX1_sortOf) (List.mem_of_getElem? (i := 13) rfl))) rfl rfl rfl (by decide +kernel) ⟨Nat.le_of_ble_eq_true rfl, Nat.le_of_ble_eq_true rfl⟩) ⟨fun a U g mk q => ⟨q.1, kU_bl q.2⟩, (kA_rv hk h_w_k), fun U hU hW => ⟨rfl, kU_mvH hk hU hW⟩⟩ rfl rfl hl.1 rfl (lv_room (Nat.le_of_ble_eq_true rfl)) dX3_put_12 ⟨Nat.zero_le _, Nat.zero_le _⟩)) (fun r_12 hr_12 => ?_)
  subst hr_12
  exact W.iret hx hb hr (fun t ht hW => ⟨⟨_, S_1, rfl, hf.symm, by rw [ht]; exact hP, va_K.moved hW.alike hK, hD⟩, hS.F ht⟩) hS.2.2 dX3_put_15
def f_X3_putPair_1 (S_1 : Nat → Int64) (x1 : Int32) (v_hi : Int64) : Nat → Int64 := (rset S_1 (vp_updL (S_1) (((2 : Int32) * x1) + (1 : Int32)).toNatClampNeg v_hi))
def f_X3_putPair (S : Nat → Int64) (w_k : Nat) (x1 : Int32) (v_k : Nat) (v_lo : Int64) (v_hi : Int64) : Nat → Int64 := (f_X3_putPair_1 (rset S (vp_updL (S) ((2 : Int32) * x1).toNatClampNeg v_lo)) x1 v_hi)
def zX3_putPair : List Cond := .code yX3_putPair cX3_putPair 3 none :: zall
theorem iX3_putPair : MWv RX3 yX3_putPair (.code yX3_putPair cX3_putPair 3 none) := ⟨(zin__r14 (.instanceMethod yX3_putPair) (List.mem_of_getElem? (i := 10) rfl)), (zin__r14 (.selects RX3 yX3_putPair yX3_putPair) (List.mem_of_getElem? (i := 11) rfl)), (zin__r2 (.initialized RX3) (List.mem_of_getElem? (i := 11) rfl)), (zin__r14 (.code yX3_putPair cX3_putPair 3 none) (List.mem_of_getElem? (i := 12) rfl))⟩
set_option maxHeartbeats 4000000 in
set_option maxRecDepth 100000 in
theorem c_X3_putPair (l : Launch) (dC : Nat → ClassId) (dI : Nat → Nat → Nat) (ad : Nat → Nat) (w w_k w_na w_n : Nat) (h_w_k : w_k < 2) (cJ : ClassId) (sz : Nat) (S : Nat → Int64) (x1 : Int32) (v v_k : Nat) (h_v_k : v_k < 2) (v_lo v_hi : Int64) (h1 : vp_in ((2 : Int32) * x1) w_n) (h2 : vp_in (((2 : Int32) * x1) + (1 : Int32)) w_n) : Met l yX3_putPair zX3_putPair ({ frames := 0, cells := 0, slots := 0, locals := 0 }) (va_Pc [.ref w, .int x1, .ref v] (fun U => rB dC dI ad w w_k w_na w_n cJ sz S U ∧ iA v ad v_k v_lo v_hi (va_A (rWs ad w w_k w_na w_n cJ S) sz) U U.heap)) (va_Qv (fun S9 => S9 = f_X3_putPair S w_k x1 v_k v_lo v_hi) (rE dC dI ad w w_k w_na w_n cJ (va_A (rWs ad w w_k w_na w_n cJ S) sz)) (va_A (rWs ad w w_k w_na w_n cJ S) sz)) 0 0 (va_A (rWs ad w w_k w_na w_n cJ S) sz) := by
  refine Met.ofW (cc := cX3_putPair) (maxL := 3) (ret := none) (by decide) rfl ?_
  intro p e s m args below meth c s₁ B hml hv
  obtain ⟨rfl, ⟨hsz, hP, hK, hD0, hkA⟩, hvA⟩ := hv
  have hx := B.exec
  have hb := B.bytes
  have hr := B.returns
  have hts : ∀ w ∈ zall, w.before _ s = true := fun w h => atoms_spec (ws := zX3_putPair) B.pre w (List.mem_cons_of_mem _ h)
  have hown : s.vm.findClass RX3 = some m.cls := findClass_of_methodNamed B.named
  have hlocks := B.notSynchronized
  subst hsz
  have hD := hD0.self (sz := s.heap.size)
  generalize hAe : va_A (rWs ad w w_k w_na w_n cJ S) s.heap.size = A at hD hkA hvA ⊢
  have hA : ∀ q : Nat, s.heap.size ≤ q → A q := fun q h => by rw [← hAe]; exact Or.inr h
  have hS : va_S A s.heap s.heap [] := va_S.rf
  have hw : rWH dC dI ad w w_k w_na w_n cJ S s s.heap := ⟨hP, hK⟩
  have hk := kA_at hkA hS
  have hr_v := iA_at hvA hS
  have hl := lv_entry ([.ref w, .int x1, .ref v]) (n := 3) (Nat.le_of_ble_eq_true rfl)
  rw [lg_entry_eq]
  generalize (lg_sl ([.ref w, .int x1, .ref v]) ++ List.replicate (3 - (lg_sl ([.ref w, .int x1, .ref v])).length) Slot.unset).toArray = ls at hl ⊢
  have hl : lv_has ls 3 [(0, .ref w), (1, .int x1), (2, .ref v)] := hl
  have hf : f_X3_putPair S w_k x1 v_k v_lo v_hi = (f_X3_putPair_1 (rset S (vp_updL (S) ((2 : Int32) * x1).toNatClampNeg v_lo)) x1 v_hi) := rfl
  refine lv_aload_n hx hb dX3_putPair_0 rfl (lv_at hl 0 rfl) ?_
  refine va_get (D := (dC, dI)) (ci := 2) (v := .ref w_na) (C := RX3) (T := TX3) (N := 2) hx hb hts zin_X3 hown hK hP 0 rfl rfl 1 (by decide) (hts _ (zin__r2 (.fieldLink RX3 15 "ReckonBench$Row" "numbers" "[J") (List.mem_of_getElem? (i := 23) rfl))) (fun _ h9 => h9) rfl dX3_putPair_1 ?_
  refine lv_iconst (v := 2) hx hb dX3_putPair_4 (by decide) ?_
  refine lv_iload_n hx hb dX3_putPair_5 rfl (lv_at hl 1 rfl) ?_
  refine lv_imul hx hb dX3_putPair_6 ?_
  refine lv_aload_n hx hb dX3_putPair_7 rfl (lv_at hl 2 rfl) ?_
  refine gf_H hx hb hr_v.2.2.1 hown (hts _ (zin__r14 (.fieldLink RX3 30 "ReckonBench$Interval" "low" "J") (List.mem_of_getElem? (i := 13) rfl))) (fun _ h9 => h9) dX3_putPair_8 ?_
  refine va_last (f := S) hx hb hK hP hD hS 1 0 rfl rfl h1 dX3_putPair_11 (fun H locs hP hD hS => ?_)
  obtain ⟨S_1, e_S_1⟩ : ∃ z : Nat → Int64, z = (rset S (vp_updL (S) ((2 : Int32) * x1).toNatClampNeg v_lo)) := ⟨_, rfl⟩
  have hP : va_P (dC, dI) vwCl (rWs ad w w_k w_na w_n cJ S_1) H := by rw [e_S_1]; exact hP
  have hD : va_D A (rWs ad w w_k w_na w_n cJ S_1) := by rw [e_S_1]; exact hD
  have hw : rWH dC dI ad w w_k w_na w_n cJ S_1 s H := ⟨hP, hK⟩
  have hk := kA_at hkA hS
  have hr_v := iA_at hvA hS
  have hf : f_X3_putPair S w_k x1 v_k v_lo v_hi = (f_X3_putPair_1 S_1 x1 v_hi) := hf.trans (congrArg (fun z => (f_X3_putPair_1 z x1 v_hi)) e_S_1.symm)
  refine lv_aload_n hx hb dX3_putPair_12 rfl (lv_at hl 0 rfl) ?_
  refine va_get (D := (dC, dI)) (ci := 2) (v := .ref w_na) (C := RX3) (T := TX3) (N := 2) hx hb hts zin_X3 hown hK hP 0 rfl rfl 1 (by decide) (hts _ (zin__r2 (.fieldLink RX3 15 "ReckonBench$Row" "numbers" "[J") (List.mem_of_getElem? (i := 23) rfl))) (fun _ h9 => h9) rfl dX3_putPair_13 ?_
  refine lv_iconst (v := 2) hx hb dX3_putPair_16 (by decide) ?_
  refine lv_iload_n hx hb dX3_putPair_17 rfl (lv_at hl 1 rfl) ?_
  refine lv_imul hx hb dX3_putPair_18 ?_
  refine lv_iconst (v := 1) hx hb dX3_putPair_19 (by decide) ?_
  refine lv_iadd hx hb dX3_putPair_20 ?_
  refine lv_aload_n hx hb dX3_putPair_21 rfl (lv_at hl 2 rfl) ?_
  refine gf_H hx hb hr_v.2.2.2 hown (hts _ (zin__r14 (.fieldLink RX3 34 "ReckonBench$Interval" "high" "J") (List.mem_of_getElem? (i := 14) rfl))) (fun _ h9 => h9) dX3_putPair_22 ?_
  refine va_last (f := S_1) hx hb hK hP hD hS 1 0 rfl rfl h2 dX3_putPair_25 (fun H locs hP hD hS => ?_)
  obtain ⟨S_2, e_S_2⟩ : ∃ z : Nat → Int64, z = (rset S_1 (vp_updL (S_1) (((2 : Int32) * x1) + (1 : Int32)).toNatClampNeg v_hi)) := ⟨_, rfl⟩
  have hP : va_P (dC, dI) vwCl (rWs ad w w_k w_na w_n cJ S_2) H := by rw [e_S_2]; exact hP
  have hD : va_D A (rWs ad w w_k w_na w_n cJ S_2) := by rw [e_S_2]; exact hD
  have hw : rWH dC dI ad w w_k w_na w_n cJ S_2 s H := ⟨hP, hK⟩
  have hk := kA_at hkA hS
  have hr_v := iA_at hvA hS
  have hf : f_X3_putPair S w_k x1 v_k v_lo v_hi = S_2 := hf.trans (congrArg (fun z => z) e_S_2.symm)
  exact W.vret hx hb hr (fun t ht hW => ⟨⟨S_2, rfl, hf.symm, by rw [ht]; exact hP, va_K.moved hW.alike hK, hD⟩, hS.F ht⟩) hS.2.2 dX3_putPair_26

