def f_X7_cut_1 (v7_3 : Int32) (w_6 : Int64) (S_1 : MSt) : Int64 × MSt := if v7_3 = 0 then (w_6, S_1) else ((-w_6), S_1)
def f_X7_cut_2 (v7_3 : Int32) (w_4 : Int64) (S_1 : MSt) : Int64 × MSt := if v7_3 = 0 then (w_4, S_1) else (((-w_4) - (1 : Int64)), S_1)
def f_X7_cut_3 (w_6 : Int64) (w_4 : Int64) (v7_3 : Int32) (S_1 : MSt) : Int64 × MSt := if w_6 ≤ w_4 then (f_X7_cut_1 v7_3 w_6 S_1) else (f_X7_cut_2 v7_3 w_4 S_1)
def f_X7_cut_4 (w_5 : Int32) (S_1 : MSt) (x1 : Int32) (v5_2 : Int64) (w_4 : Int64) (v7_3 : Int32) : Int64 × MSt := if (-62 : Int32) ≤ w_5 then (f_X7_cut_3 (jlshr (f_X7_mantissa (mk S_1 x1.toNatClampNeg) v5_2) (-w_5)) w_4 v7_3 S_1) else (f_X7_cut_3 (0 : Int64) w_4 v7_3 S_1)
def f_X7_cut_5 (w_5 : Int32) (S_1 : MSt) (x1 : Int32) (v5_2 : Int64) (w_4 : Int64) (v7_3 : Int32) : Int64 × MSt := if w_5 < 0 then (f_X7_cut_4 w_5 S_1 x1 v5_2 w_4 v7_3) else (f_X7_cut_3 (jlshl (f_X7_mantissa (mk S_1 x1.toNatClampNeg) v5_2) w_5) w_4 v7_3 S_1)
def f_X7_cut_6 (w_5 : Int32) (S_1 : MSt) (x1 : Int32) (v5_2 : Int64) (w_4 : Int64) (v7_3 : Int32) : Int64 × MSt := if w_5 ≤ ((62 : Int32) - (kfb (mk S_1 x1.toNatClampNeg))) then (f_X7_cut_5 w_5 S_1 x1 v5_2 w_4 v7_3) else (f_X7_cut_2 v7_3 w_4 S_1)
def f_X7_cut_7 (S_1 : MSt) (x1 : Int32) (v5_2 : Int64) (w_4 : Int64) (v7_3 : Int32) : Int64 × MSt := if (f_X7_infinite (mk S_1 x1.toNatClampNeg) v5_2) = 0 then (f_X7_cut_6 (f_X7_power (mk S_1 x1.toNatClampNeg) v5_2) S_1 x1 v5_2 w_4 v7_3) else (f_X7_cut_6 (99 : Int32) S_1 x1 v5_2 w_4 v7_3)
def f_X7_cut_8 (x3 : Int32) (S_1 : MSt) (x1 : Int32) (v5_2 : Int64) (v7_3 : Int32) : Int64 × MSt := if x3 = 0 then (f_X7_cut_7 S_1 x1 v5_2 (9223372036854775807 : Int64) v7_3) else (f_X7_cut_7 S_1 x1 v5_2 (2147483647 : Int64) v7_3)
def f_X7_cut_9 (S_1 : MSt) (x1 : Int32) (v5_2 : Int64) (x3 : Int32) : Int64 × MSt := if (f_X7_zero (mk S_1 x1.toNatClampNeg) v5_2) = 0 then (f_X7_cut_8 x3 S_1 x1 v5_2 (f_X7_minus (mk S_1 x1.toNatClampNeg) v5_2)) else ((0 : Int64), S_1)
def f_X7_cut_10 (S_1 : MSt) (x1 : Int32) (v5_2 : Int64) (x3 : Int32) : Int64 × MSt := if (f_X7_none (mk S_1 x1.toNatClampNeg) v5_2) = 0 then (f_X7_cut_9 S_1 x1 v5_2 x3) else ((0 : Int64), S_1)
def f_X7_cut_11 (S_1 : MSt) (x1 : Int32) (x2 : Int32) (x3 : Int32) : Int64 × MSt := if (ms S_1) ≤ 0 then (f_X7_cut_10 S_1 x1 (f_X7_at S_1 x1 x2) x3) else ((0 : Int64), S_1)
def f_X7_cut (S : MSt) (x1 : Int32) (x2 : Int32) (x3 : Int32) : Int64 × MSt := (f_X7_cut_11 (mset_s S (f_X7_bad S x1 x2)) x1 x2 x3)
def zX7_cut : List Cond := .code yX7_cut cX7_cut 13 (some .long) :: zall
theorem iX7_cut : MWv RX7 yX7_cut (.code yX7_cut cX7_cut 13 (some .long)) := ⟨(zin__r12 (.instanceMethod yX7_cut) (List.mem_of_getElem? (i := 18) rfl)), (zin__r12 (.selects RX7 yX7_cut yX7_cut) (List.mem_of_getElem? (i := 19) rfl)), (zin__r1 (.initialized RX7) (List.mem_of_getElem? (i := 5) rfl)), (zin__r12 (.code yX7_cut cX7_cut 13 (some .long)) (List.mem_of_getElem? (i := 20) rfl))⟩
set_option maxHeartbeats 4000000 in
set_option maxRecDepth 100000 in
theorem c_X7_cut (l : Launch) (dC : Nat → ClassId) (dI : Nat → Nat → Nat) (o : Nat) (r : Nat → Nat) (cI cJ : ClassId) (sz : Nat) (S : MSt) (x1 : Int32) (x2 : Int32) (x3 : Int32) (hI : mInv S) : Met l yX7_cut zX7_cut ({ frames := 2, cells := 0, slots := 0, locals := 52 }) (va_Pc [.ref o, .int x1, .int x2, .int x3] (fun U => mB dC dI o r cI cJ sz S U)) (va_Ql (fun r9 S9 => (r9, S9) = f_X7_cut S x1 x2 x3) (mE dC dI o r cI cJ (va_A (mWs o r cI cJ S) sz)) (va_A (mWs o r cI cJ S) sz)) 0 0 (va_A (mWs o r cI cJ S) sz) := by
  refine Met.ofW (cc := cX7_cut) (maxL := 13) (ret := (some .long)) (by decide) rfl ?_
  intro p e s m args below meth c s₁ B hml hv
  obtain ⟨rfl, hsz, hP, hK, hD0⟩ := hv
  have hx := B.exec
  have hb := B.bytes
  have hr := B.returns
  have hts : ∀ w ∈ zall, w.before _ s = true := fun w h => atoms_spec (ws := zX7_cut) B.pre w (List.mem_cons_of_mem _ h)
  have hown : s.vm.findClass RX7 = some m.cls := findClass_of_methodNamed B.named
  have hlocks := B.notSynchronized
  subst hsz
  have hD := hD0.self (sz := s.heap.size)
  generalize hAe : va_A (mWs o r cI cJ S) s.heap.size = A at hD ⊢
  have hA : ∀ q : Nat, s.heap.size ≤ q → A q := fun q h => by rw [← hAe]; exact Or.inr h
  have hS : va_S A s.heap s.heap [] := va_S.rf
  have hw : mH dC dI o r cI cJ S s s.heap := ⟨hP, hK⟩
  have hm := mA_of hts hw
  have hl := lv_entry ([.ref o, .int x1, .int x2, .int x3]) (n := 13) (Nat.le_of_ble_eq_true rfl)
  rw [lg_entry_eq]
  generalize (lg_sl ([.ref o, .int x1, .int x2, .int x3]) ++ List.replicate (13 - (lg_sl ([.ref o, .int x1, .int x2, .int x3])).length) Slot.unset).toArray = ls at hl ⊢
  have hl : lv_has ls 13 [(0, .ref o), (1, .int x1), (2, .int x2), (3, .int x3)] := hl
  have hf : f_X7_cut S x1 x2 x3 = (f_X7_cut_11 (mset_s S (f_X7_bad S x1 x2)) x1 x2 x3) := rfl
  refine lv_aload_n hx hb dX7_cut_0 rfl (lv_at hl 0 rfl) ?_
  refine lv_aload_n hx hb dX7_cut_1 rfl (lv_at hl 0 rfl) ?_
  refine lv_iload_n hx hb dX7_cut_2 rfl (lv_at hl 1 rfl) ?_
  refine lv_iload_n hx hb dX7_cut_3 rfl (lv_at hl 2 rfl) ?_
  refine vp_callSi (va_Run.run (va_runV (As := [.int x1, .int x2]) (rest := [.ref o]) ⟨hx, hb, hml, hown, hts⟩ (c_X7_bad l dC dI o r cI cJ S x1 x2 hI) (cwV 2 hts (gV iX7_bad (zin__r6 (.methodLink RX7 142 yX7_bad) (List.mem_of_getElem? (i := 15) rfl))) rfl rfl rfl (by decide +kernel) ⟨Nat.le_of_ble_eq_true rfl, Nat.le_of_ble_eq_true rfl⟩) ⟨fun a U g mk q => ⟨q.1, mW_bl q.2⟩, (mW_rv hw), fun U hU hW => ⟨rfl, mW_mv hw hU hW⟩⟩ rfl rfl hl.1 rfl (lv_room (Nat.le_of_ble_eq_true rfl)) dX7_cut_4 ⟨Nat.zero_le _, Nat.zero_le _⟩)) (fun r_4 hr_4 => ?_)
  subst hr_4
  refine va_put (D := (dC, dI)) (ci := 5) (v := .int (f_X7_bad S x1 x2)) (ty := .int) (C := RX7) (T := TX7) (N := 18) hx hb hts zin_X7 tyX7 tyX7_ok nmX7 hown hK hP hD hS 0 rfl rfl 17 (by decide) (hts _ (zin__r4 (.fieldLink RX7 75 "ReckonBenchModel" "status" "I") (List.mem_of_getElem? (i := 13) rfl))) (fun _ h9 => h9) rfl (by decide +kernel) rfl rfl (Nat.le_of_ble_eq_true rfl) dX7_cut_7 (fun H locs hP hD hS => ?_)
  obtain ⟨S_1, e_S_1⟩ : ∃ z : MSt, z = (mset_s S (f_X7_bad S x1 x2)) := ⟨_, rfl⟩
  have hP : va_P (dC, dI) vwCl (mWs o r cI cJ S_1) H := by rw [e_S_1]; exact hP
  have hD : va_D A (mWs o r cI cJ S_1) := by rw [e_S_1]; exact hD
  have hw : mH dC dI o r cI cJ S_1 s H := ⟨hP, hK⟩
  have hm := mA_of hts hw
  have hI : mInv S_1 := by rw [e_S_1]; exact hI
  have hf : f_X7_cut S x1 x2 x3 = (f_X7_cut_11 S_1 x1 x2 x3) := hf.trans (congrArg (fun z => (f_X7_cut_11 z x1 x2 x3)) e_S_1.symm)
  refine lv_aload_n hx hb dX7_cut_10 rfl (lv_at hl 0 rfl) ?_
  refine va_get (D := (dC, dI)) (ci := 5) (v := .int (ms S_1)) (C := RX7) (T := TX7) (N := 18) hx hb hts zin_X7 hown hK hP 0 rfl rfl 17 (by decide) (hts _ (zin__r4 (.fieldLink RX7 75 "ReckonBenchModel" "status" "I") (List.mem_of_getElem? (i := 13) rfl))) (fun _ h9 => h9) rfl dX7_cut_11 ?_
  refine lv_if_le (tgt := 19) hx hb dX7_cut_14 (by decide) (fun c_14 => ?_) (fun c_14 => ?_)
  · have hf : f_X7_cut S x1 x2 x3 = (f_X7_cut_10 S_1 x1 (f_X7_at S_1 x1 x2) x3) := hf.trans (if_pos c_14)
    have hL : mPl S_1 x1 x2 := why_ok (S := S_1) hI (show ms S_1 = f_X7_bad S_1 x1 x2 from by subst e_S_1; rfl) c_14
    refine lv_aload_n hx hb dX7_cut_19 rfl (lv_at hl 0 rfl) ?_
    refine va_get (D := (dC, dI)) (ci := 5) (v := .ref (r 8)) (C := RX7) (T := TX7) (N := 18) hx hb hts zin_X7 hown hK hP 0 rfl rfl 8 (by decide) (hts _ (zin__r3 (.fieldLink RX7 51 "ReckonBenchModel" "kinds" "[I") (List.mem_of_getElem? (i := 2) rfl))) (fun _ h9 => h9) rfl dX7_cut_20 ?_
    refine lv_iload_n hx hb dX7_cut_23 rfl (lv_at hl 1 rfl) ?_
    refine va_iald (f := fun j => nI (mk S_1 j)) hx hb hK hP 9 0 rfl rfl (mRow.in2 hI (mPl.row hL)) dX7_cut_24 ?_
    refine lv_istore (lv' := [(4, .int (nI (mk S_1 x1.toNatClampNeg))), (0, .ref o), (1, .int x1), (2, .int x2), (3, .int x3)]) hx hb dX7_cut_25 hl (by decide) rfl (fun ls hl => ?_)
    refine lv_aload_n hx hb dX7_cut_27 rfl (lv_at hl 1 rfl) ?_
    refine lv_iload_n hx hb dX7_cut_28 rfl (lv_at hl 2 rfl) ?_
    refine lv_iload_n hx hb dX7_cut_29 rfl (lv_at hl 3 rfl) ?_
    refine vp_callSl (va_Run.run (va_runV (As := [.int x1, .int x2]) (rest := []) ⟨hx, hb, hml, hown, hts⟩ (c_X7_at l dC dI o r cI cJ S_1 x1 x2 (mRow.in0 hI (mPl.row hL)) (mPl.at hI hL)) (cwV 2 hts (gV iX7_at (zin__r11 (.methodLink RX7 155 yX7_at) (List.mem_of_getElem? (i := 2) rfl))) rfl rfl rfl (by decide +kernel) ⟨Nat.le_of_ble_eq_true rfl, Nat.le_of_ble_eq_true rfl⟩) ⟨fun a U g mk q => ⟨q.1, mW_bl q.2⟩, (mW_rv hw), fun U hU hW => ⟨rfl, mW_mv hw hU hW⟩⟩ rfl rfl hl.1 rfl (lv_room (Nat.le_of_ble_eq_true rfl)) dX7_cut_30 ⟨Nat.zero_le _, Nat.zero_le _⟩)) (fun r_30 hr_30 => ?_)
    subst hr_30
    refine lv_topl (fun v5_2 e_v5_2 => ?_)
    have hf : f_X7_cut S x1 x2 x3 = (f_X7_cut_10 S_1 x1 v5_2 x3) := hf.trans (congrArg (fun z => (f_X7_cut_10 S_1 x1 z x3)) e_v5_2.symm)
    refine lv_lstore (lv' := [(5, .long v5_2), (4, .int (nI (mk S_1 x1.toNatClampNeg))), (0, .ref o), (1, .int x1), (2, .int x2), (3, .int x3)]) hx hb dX7_cut_33 hl (by decide) rfl (fun ls hl => ?_)
    refine lv_aload_n hx hb dX7_cut_35 rfl (lv_at hl 2 rfl) ?_
    refine lv_iload hx hb dX7_cut_36 (lv_at hl 1 rfl) ?_
    refine lv_lload hx hb dX7_cut_38 (lv_at hl 0 rfl) ?_
    refine vp_callSi (va_Run.run (va_runV (As := [.int (nI (mk S_1 x1.toNatClampNeg)), .long v5_2]) (rest := []) ⟨hx, hb, hml, hown, hts⟩ (c_X7_none l o r (mk S_1 x1.toNatClampNeg) (mRow.k hI (mPl.row hL)) v5_2) (cwV 2 hts (gV iX7_none (zin__r7 (.methodLink RX7 98 yX7_none) (List.mem_of_getElem? (i := 17) rfl))) rfl rfl rfl (by decide +kernel) ⟨Nat.le_of_ble_eq_true rfl, Nat.le_of_ble_eq_true rfl⟩) ⟨fun a U g mk q => ⟨q.1, mU_bl q.2⟩, (mW_rv hw), fun U hU hW => ⟨rfl, mU_mvH hm hU hW⟩⟩ rfl rfl hl.1 rfl (lv_room (Nat.le_of_ble_eq_true rfl)) dX7_cut_40 ⟨Nat.zero_le _, Nat.zero_le _⟩)) (fun r_40 hr_40 => ?_)
    subst hr_40
    refine lv_if_ne (tgt := 57) hx hb dX7_cut_43 (by decide) (fun c_43 => ?_) (fun c_43 => ?_)
    · have hf : f_X7_cut S x1 x2 x3 = ((0 : Int64), S_1) := hf.trans (if_neg c_43)
      refine lv_lconst (v := 0) hx hb dX7_cut_57 (by decide) ?_
      exact W.lret hx hb hr (fun t ht hW => ⟨⟨_, S_1, rfl, hf.symm, by rw [ht]; exact hP, va_K.moved hW.alike hK, hD⟩, hS.F ht⟩) hS.2.2 dX7_cut_58
    · have hf : f_X7_cut S x1 x2 x3 = (f_X7_cut_9 S_1 x1 v5_2 x3) := hf.trans (if_pos c_43)
      refine lv_aload_n hx hb dX7_cut_46 rfl (lv_at hl 2 rfl) ?_
      refine lv_iload hx hb dX7_cut_47 (lv_at hl 1 rfl) ?_
      refine lv_lload hx hb dX7_cut_49 (lv_at hl 0 rfl) ?_
      refine vp_callSi (va_Run.run (va_runV (As := [.int (nI (mk S_1 x1.toNatClampNeg)), .long v5_2]) (rest := []) ⟨hx, hb, hml, hown, hts⟩ (c_X7_zero l o r (mk S_1 x1.toNatClampNeg) (mRow.k hI (mPl.row hL)) v5_2) (cwV 2 hts (gV iX7_zero (zin__r7 (.methodLink RX7 102 yX7_zero) (List.mem_of_getElem? (i := 21) rfl))) rfl rfl rfl (by decide +kernel) ⟨Nat.le_of_ble_eq_true rfl, Nat.le_of_ble_eq_true rfl⟩) ⟨fun a U g mk q => ⟨q.1, mU_bl q.2⟩, (mW_rv hw), fun U hU hW => ⟨rfl, mU_mvH hm hU hW⟩⟩ rfl rfl hl.1 rfl (lv_room (Nat.le_of_ble_eq_true rfl)) dX7_cut_51 ⟨Nat.zero_le _, Nat.zero_le _⟩)) (fun r_51 hr_51 => ?_)
      subst hr_51
      refine lv_if_eq (tgt := 59) hx hb dX7_cut_54 (by decide) (fun c_54 => ?_) (fun c_54 => ?_)
      · have hf : f_X7_cut S x1 x2 x3 = (f_X7_cut_8 x3 S_1 x1 v5_2 (f_X7_minus (mk S_1 x1.toNatClampNeg) v5_2)) := hf.trans (if_pos c_54)
        have hz : 0 < (f_X7_unsigned (mk S_1 x1.toNatClampNeg) v5_2).toInt ∧ f_X7_unsigned (mk S_1 x1.toNatClampNeg) v5_2 ≤ kinf (mk S_1 x1.toNatClampNeg) := (kpos (mRow.k hI (mPl.row hL)) (show kcn _ v5_2 from by rw [e_v5_2]; exact mPl.cln hI hL) c_43 c_54)
        refine lv_aload_n hx hb dX7_cut_59 rfl (lv_at hl 2 rfl) ?_
        refine lv_iload hx hb dX7_cut_60 (lv_at hl 1 rfl) ?_
        refine lv_lload hx hb dX7_cut_62 (lv_at hl 0 rfl) ?_
        refine vp_callSi (va_Run.run (va_runV (As := [.int (nI (mk S_1 x1.toNatClampNeg)), .long v5_2]) (rest := []) ⟨hx, hb, hml, hown, hts⟩ (c_X7_minus l o r (mk S_1 x1.toNatClampNeg) (mRow.k hI (mPl.row hL)) v5_2) (cwV 2 hts (gV iX7_minus (zin__r8 (.methodLink RX7 108 yX7_minus) (List.mem_of_getElem? (i := 5) rfl))) rfl rfl rfl (by decide +kernel) ⟨Nat.le_of_ble_eq_true rfl, Nat.le_of_ble_eq_true rfl⟩) ⟨fun a U g mk q => ⟨q.1, mU_bl q.2⟩, (mW_rv hw), fun U hU hW => ⟨rfl, mU_mvH hm hU hW⟩⟩ rfl rfl hl.1 rfl (lv_room (Nat.le_of_ble_eq_true rfl)) dX7_cut_64 ⟨Nat.zero_le _, Nat.zero_le _⟩)) (fun r_64 hr_64 => ?_)
        subst hr_64
        refine lv_topi (fun v7_3 e_v7_3 => ?_)
        have hf : f_X7_cut S x1 x2 x3 = (f_X7_cut_8 x3 S_1 x1 v5_2 v7_3) := hf.trans (congrArg (fun z => (f_X7_cut_8 x3 S_1 x1 v5_2 z)) e_v7_3.symm)
        refine lv_istore (lv' := [(7, .int v7_3), (5, .long v5_2), (4, .int (nI (mk S_1 x1.toNatClampNeg))), (0, .ref o), (1, .int x1), (2, .int x2), (3, .int x3)]) hx hb dX7_cut_67 hl (by decide) rfl (fun ls hl => ?_)
        refine lv_iload_n hx hb dX7_cut_69 rfl (lv_at hl 6 rfl) ?_
        refine W_cut (α := Int64) (pcJ := 82) (nL := 13) (fun v => f_X7_cut S x1 x2 x3 = (f_X7_cut_7 S_1 x1 v5_2 v v7_3)) (fun v => [.long v]) (fun v => [(0, .ref o), (4, .int (nI (mk S_1 x1.toNatClampNeg))), (5, .long v5_2), (7, .int v7_3)]) (fun w_4 ls hf hl => ?_) (fun K_82 => ?_)
        · have hf : f_X7_cut S x1 x2 x3 = (f_X7_cut_7 S_1 x1 v5_2 w_4 v7_3) := hf
          have hl : lv_has ls 13 [(0, .ref o), (4, .int (nI (mk S_1 x1.toNatClampNeg))), (5, .long v5_2), (7, .int v7_3)] := hl
          refine lv_lstore (lv' := [(8, .long w_4), (0, .ref o), (4, .int (nI (mk S_1 x1.toNatClampNeg))), (5, .long v5_2), (7, .int v7_3)]) hx hb dX7_cut_82 hl (by decide) rfl (fun ls hl => ?_)
          refine lv_aload_n hx hb dX7_cut_84 rfl (lv_at hl 1 rfl) ?_
          refine lv_iload hx hb dX7_cut_85 (lv_at hl 2 rfl) ?_
          refine lv_lload hx hb dX7_cut_87 (lv_at hl 3 rfl) ?_
          refine vp_callSi (va_Run.run (va_runV (As := [.int (nI (mk S_1 x1.toNatClampNeg)), .long v5_2]) (rest := []) ⟨hx, hb, hml, hown, hts⟩ (c_X7_infinite l o r (mk S_1 x1.toNatClampNeg) (mRow.k hI (mPl.row hL)) v5_2) (cwV 2 hts (gV iX7_infinite (zin__r8 (.methodLink RX7 105 yX7_infinite) (List.mem_of_getElem? (i := 1) rfl))) rfl rfl rfl (by decide +kernel) ⟨Nat.le_of_ble_eq_true rfl, Nat.le_of_ble_eq_true rfl⟩) ⟨fun a U g mk q => ⟨q.1, mU_bl q.2⟩, (mW_rv hw), fun U hU hW => ⟨rfl, mU_mvH hm hU hW⟩⟩ rfl rfl hl.1 rfl (lv_room (Nat.le_of_ble_eq_true rfl)) dX7_cut_89 ⟨Nat.zero_le _, Nat.zero_le _⟩)) (fun r_89 hr_89 => ?_)
          subst hr_89
          refine W_cut (α := Int32) (pcJ := 108) (nL := 13) (fun v => f_X7_cut S x1 x2 x3 = (f_X7_cut_6 v S_1 x1 v5_2 w_4 v7_3)) (fun v => [.int v]) (fun v => [(0, .ref o), (4, .int (nI (mk S_1 x1.toNatClampNeg))), (5, .long v5_2), (7, .int v7_3), (8, .long w_4)]) (fun w_5 ls hf hl => ?_) (fun K_108 => ?_)
          · have hf : f_X7_cut S x1 x2 x3 = (f_X7_cut_6 w_5 S_1 x1 v5_2 w_4 v7_3) := hf
            have hl : lv_has ls 13 [(0, .ref o), (4, .int (nI (mk S_1 x1.toNatClampNeg))), (5, .long v5_2), (7, .int v7_3), (8, .long w_4)] := hl
            refine lv_istore (lv' := [(10, .int w_5), (0, .ref o), (4, .int (nI (mk S_1 x1.toNatClampNeg))), (5, .long v5_2), (7, .int v7_3), (8, .long w_4)]) hx hb dX7_cut_108 hl (by decide) rfl (fun ls hl => ?_)
            refine lv_iload hx hb dX7_cut_110 (lv_at hl 0 rfl) ?_
            refine lv_bipush (v := 62) hx hb dX7_cut_112 (by decide) ?_
            refine lv_aload_n hx hb dX7_cut_114 rfl (lv_at hl 1 rfl) ?_
            refine va_get (D := (dC, dI)) (ci := 5) (v := .ref (r 0)) (C := RX7) (T := TX7) (N := 18) hx hb hts zin_X7 hown hK hP 0 rfl rfl 0 (by decide) (hts _ (zin__r2 (.fieldLink RX7 7 "ReckonBenchModel" "FRACTION" "[I") (List.mem_of_getElem? (i := 10) rfl))) (fun _ h9 => h9) rfl dX7_cut_115 ?_
            refine lv_iload hx hb dX7_cut_118 (lv_at hl 2 rfl) ?_
            refine va_iald (f := kfb) hx hb hK hP 1 0 rfl rfl (kin (mRow.k hI (mPl.row hL))) dX7_cut_120 ?_
            rw [kcl (mRow.k hI (mPl.row hL))]
            refine lv_isub hx hb dX7_cut_121 ?_
            refine lv_icmp_le (tgt := 141) hx hb dX7_cut_122 (by decide) (fun c_122 => ?_) (fun c_122 => ?_)
            · have hf : f_X7_cut S x1 x2 x3 = (f_X7_cut_5 w_5 S_1 x1 v5_2 w_4 v7_3) := hf.trans (if_pos c_122)
              refine lv_iload hx hb dX7_cut_141 (lv_at hl 0 rfl) ?_
              refine W_cut (α := Int64) (pcJ := 183) (nL := 13) (fun v => f_X7_cut S x1 x2 x3 = (f_X7_cut_3 v w_4 v7_3 S_1)) (fun v => [.long v]) (fun v => [(7, .int v7_3), (8, .long w_4)]) (fun w_6 ls hf hl => ?_) (fun K_183 => ?_)
              · have hf : f_X7_cut S x1 x2 x3 = (f_X7_cut_3 w_6 w_4 v7_3 S_1) := hf
                have hl : lv_has ls 13 [(7, .int v7_3), (8, .long w_4)] := hl
                refine lv_lstore (lv' := [(11, .long w_6), (7, .int v7_3), (8, .long w_4)]) hx hb dX7_cut_183 hl (by decide) rfl (fun ls hl => ?_)
                refine lv_lload hx hb dX7_cut_185 (lv_at hl 0 rfl) ?_
                refine lv_lload hx hb dX7_cut_187 (lv_at hl 2 rfl) ?_
                refine W.lcmp hx hb dX7_cut_189 ?_
                refine lv_if_le (tgt := 209) hx hb dX7_cut_190 (by decide) (fun c_190 => ?_) (fun c_190 => ?_)
                · have c_190 : w_6 ≤ w_4 := (lg_cmp_le w_6 w_4).mp c_190
                  have hf : f_X7_cut S x1 x2 x3 = (f_X7_cut_1 v7_3 w_6 S_1) := hf.trans (if_pos c_190)
                  refine lv_iload hx hb dX7_cut_209 (lv_at hl 1 rfl) ?_
                  refine lv_if_eq (tgt := 220) hx hb dX7_cut_211 (by decide) (fun c_211 => ?_) (fun c_211 => ?_)
                  · have hf : f_X7_cut S x1 x2 x3 = (w_6, S_1) := hf.trans (if_pos c_211)
                    refine lv_lload hx hb dX7_cut_220 (lv_at hl 0 rfl) ?_
                    exact W.lret hx hb hr (fun t ht hW => ⟨⟨_, S_1, rfl, hf.symm, by rw [ht]; exact hP, va_K.moved hW.alike hK, hD⟩, hS.F ht⟩) hS.2.2 dX7_cut_222
                  · have hf : f_X7_cut S x1 x2 x3 = ((-w_6), S_1) := hf.trans (if_neg c_211)
                    refine lv_lload hx hb dX7_cut_214 (lv_at hl 0 rfl) ?_
                    refine lv_lneg hx hb dX7_cut_216 ?_
                    refine lv_goto (tgt := 222) hx hb dX7_cut_217 (by decide) ?_
                    exact W.lret hx hb hr (fun t ht hW => ⟨⟨_, S_1, rfl, hf.symm, by rw [ht]; exact hP, va_K.moved hW.alike hK, hD⟩, hS.F ht⟩) hS.2.2 dX7_cut_222
                · have c_190 : ¬ (w_6 ≤ w_4) := fun h9 => c_190 ((lg_cmp_le w_6 w_4).mpr h9)
                  have hf : f_X7_cut S x1 x2 x3 = (f_X7_cut_2 v7_3 w_4 S_1) := hf.trans (if_neg c_190)
                  refine lv_iload hx hb dX7_cut_193 (lv_at hl 1 rfl) ?_
                  refine lv_if_eq (tgt := 206) hx hb dX7_cut_195 (by decide) (fun c_195 => ?_) (fun c_195 => ?_)
                  · have hf : f_X7_cut S x1 x2 x3 = (w_4, S_1) := hf.trans (if_pos c_195)
                    refine lv_lload hx hb dX7_cut_206 (lv_at hl 2 rfl) ?_
                    exact W.lret hx hb hr (fun t ht hW => ⟨⟨_, S_1, rfl, hf.symm, by rw [ht]; exact hP, va_K.moved hW.alike hK, hD⟩, hS.F ht⟩) hS.2.2 dX7_cut_208
                  · have hf : f_X7_cut S x1 x2 x3 = (((-w_4) - (1 : Int64)), S_1) := hf.trans (if_neg c_195)
                    refine lv_lload hx hb dX7_cut_198 (lv_at hl 2 rfl) ?_
                    refine lv_lneg hx hb dX7_cut_200 ?_
                    refine lv_lconst (v := 1) hx hb dX7_cut_201 (by decide) ?_
                    refine lv_lsub hx hb dX7_cut_202 ?_
                    refine lv_goto (tgt := 208) hx hb dX7_cut_203 (by decide) ?_
                    exact W.lret hx hb hr (fun t ht hW => ⟨⟨_, S_1, rfl, hf.symm, by rw [ht]; exact hP, va_K.moved hW.alike hK, hD⟩, hS.F ht⟩) hS.2.2 dX7_cut_208
              refine lv_if_lt (tgt := 160) hx hb dX7_cut_143 (by decide) (fun c_143 => ?_) (fun c_143 => ?_)
              · have hf : f_X7_cut S x1 x2 x3 = (f_X7_cut_4 w_5 S_1 x1 v5_2 w_4 v7_3) := hf.trans (if_pos c_143)
                refine lv_iload hx hb dX7_cut_160 (lv_at hl 0 rfl) ?_
                refine lv_bipush (v := -62) hx hb dX7_cut_162 (by decide) ?_
                refine lv_icmp_ge (tgt := 171) hx hb dX7_cut_164 (by decide) (fun c_164 => ?_) (fun c_164 => ?_)
                · have hf : f_X7_cut S x1 x2 x3 = (f_X7_cut_3 (jlshr (f_X7_mantissa (mk S_1 x1.toNatClampNeg) v5_2) (-w_5)) w_4 v7_3 S_1) := hf.trans (if_pos c_164)
                  refine lv_aload_n hx hb dX7_cut_171 rfl (lv_at hl 1 rfl) ?_
                  refine lv_iload hx hb dX7_cut_172 (lv_at hl 2 rfl) ?_
                  refine lv_lload hx hb dX7_cut_174 (lv_at hl 3 rfl) ?_
                  refine vp_callSl (va_Run.run (va_runV (As := [.int (nI (mk S_1 x1.toNatClampNeg)), .long v5_2]) (rest := []) ⟨hx, hb, hml, hown, hts⟩ (c_X7_mantissa l o r (mk S_1 x1.toNatClampNeg) (mRow.k hI (mPl.row hL)) v5_2 hz) (cwV 2 hts (gV iX7_mantissa (zin__r13 (.methodLink RX7 119 yX7_mantissa) (List.mem_of_getElem? (i := 3) rfl))) rfl rfl rfl (by decide +kernel) ⟨Nat.le_of_ble_eq_true rfl, Nat.le_of_ble_eq_true rfl⟩) ⟨fun a U g mk q => ⟨q.1, mU_bl q.2⟩, (mW_rv hw), fun U hU hW => ⟨rfl, mU_mvH hm hU hW⟩⟩ rfl rfl hl.1 rfl (lv_room (Nat.le_of_ble_eq_true rfl)) dX7_cut_176 ⟨Nat.zero_le _, Nat.zero_le _⟩)) (fun r_176 hr_176 => ?_)
                  subst hr_176
                  refine lv_iload hx hb dX7_cut_179 (lv_at hl 0 rfl) ?_
                  refine lv_ineg hx hb dX7_cut_181 ?_
                  refine lv_lshr (v := (jlshr (f_X7_mantissa (mk S_1 x1.toNatClampNeg) v5_2) (-w_5))) hx hb dX7_cut_182 rfl ?_
                  exact K_183 (jlshr (f_X7_mantissa (mk S_1 x1.toNatClampNeg) v5_2) (-w_5)) ls hf (lv_sub hl [4, 5] rfl)
                · have hf : f_X7_cut S x1 x2 x3 = (f_X7_cut_3 (0 : Int64) w_4 v7_3 S_1) := hf.trans (if_neg c_164)
                  refine lv_lconst (v := 0) hx hb dX7_cut_167 (by decide) ?_
                  refine lv_goto (tgt := 183) hx hb dX7_cut_168 (by decide) ?_
                  exact K_183 (0 : Int64) ls hf (lv_sub hl [4, 5] rfl)
              · have hf : f_X7_cut S x1 x2 x3 = (f_X7_cut_3 (jlshl (f_X7_mantissa (mk S_1 x1.toNatClampNeg) v5_2) w_5) w_4 v7_3 S_1) := hf.trans (if_neg c_143)
                refine lv_aload_n hx hb dX7_cut_146 rfl (lv_at hl 1 rfl) ?_
                refine lv_iload hx hb dX7_cut_147 (lv_at hl 2 rfl) ?_
                refine lv_lload hx hb dX7_cut_149 (lv_at hl 3 rfl) ?_
                refine vp_callSl (va_Run.run (va_runV (As := [.int (nI (mk S_1 x1.toNatClampNeg)), .long v5_2]) (rest := []) ⟨hx, hb, hml, hown, hts⟩ (c_X7_mantissa l o r (mk S_1 x1.toNatClampNeg) (mRow.k hI (mPl.row hL)) v5_2 hz) (cwV 2 hts (gV iX7_mantissa (zin__r13 (.methodLink RX7 119 yX7_mantissa) (List.mem_of_getElem? (i := 3) rfl))) rfl rfl rfl (by decide +kernel) ⟨Nat.le_of_ble_eq_true rfl, Nat.le_of_ble_eq_true rfl⟩) ⟨fun a U g mk q => ⟨q.1, mU_bl q.2⟩, (mW_rv hw), fun U hU hW => ⟨rfl, mU_mvH hm hU hW⟩⟩ rfl rfl hl.1 rfl (lv_room (Nat.le_of_ble_eq_true rfl)) dX7_cut_151 ⟨Nat.zero_le _, Nat.zero_le _⟩)) (fun r_151 hr_151 => ?_)
                subst hr_151
                refine lv_iload hx hb dX7_cut_154 (lv_at hl 0 rfl) ?_
                refine lv_lshl (v := (jlshl (f_X7_mantissa (mk S_1 x1.toNatClampNeg) v5_2) w_5)) hx hb dX7_cut_156 rfl ?_
                refine lv_goto (tgt := 183) hx hb dX7_cut_157 (by decide) ?_
                exact K_183 (jlshl (f_X7_mantissa (mk S_1 x1.toNatClampNeg) v5_2) w_5) ls hf (lv_sub hl [4, 5] rfl)
            · have hf : f_X7_cut S x1 x2 x3 = (f_X7_cut_2 v7_3 w_4 S_1) := hf.trans (if_neg c_122)
              refine lv_iload hx hb dX7_cut_125 (lv_at hl 4 rfl) ?_
              refine lv_if_eq (tgt := 138) hx hb dX7_cut_127 (by decide) (fun c_127 => ?_) (fun c_127 => ?_)
              · have hf : f_X7_cut S x1 x2 x3 = (w_4, S_1) := hf.trans (if_pos c_127)
                refine lv_lload hx hb dX7_cut_138 (lv_at hl 5 rfl) ?_
                exact W.lret hx hb hr (fun t ht hW => ⟨⟨_, S_1, rfl, hf.symm, by rw [ht]; exact hP, va_K.moved hW.alike hK, hD⟩, hS.F ht⟩) hS.2.2 dX7_cut_140
              · have hf : f_X7_cut S x1 x2 x3 = (((-w_4) - (1 : Int64)), S_1) := hf.trans (if_neg c_127)
                refine lv_lload hx hb dX7_cut_130 (lv_at hl 5 rfl) ?_
                refine lv_lneg hx hb dX7_cut_132 ?_
                refine lv_lconst (v := 1) hx hb dX7_cut_133 (by decide) ?_
                refine lv_lsub hx hb dX7_cut_134 ?_
                refine lv_goto (tgt := 140) hx hb dX7_cut_135 (by decide) ?_
                exact W.lret hx hb hr (fun t ht hW => ⟨⟨_, S_1, rfl, hf.symm, by rw [ht]; exact hP, va_K.moved hW.alike hK, hD⟩, hS.F ht⟩) hS.2.2 dX7_cut_140
          refine lv_if_eq (tgt := 100) hx hb dX7_cut_92 (by decide) (fun c_92 => ?_) (fun c_92 => ?_)
          · have hf : f_X7_cut S x1 x2 x3 = (f_X7_cut_6 (f_X7_power (mk S_1 x1.toNatClampNeg) v5_2) S_1 x1 v5_2 w_4 v7_3) := hf.trans (if_pos c_92)
            refine lv_aload_n hx hb dX7_cut_100 rfl (lv_at hl 1 rfl) ?_
            refine lv_iload hx hb dX7_cut_101 (lv_at hl 2 rfl) ?_
            refine lv_lload hx hb dX7_cut_103 (lv_at hl 3 rfl) ?_
            refine vp_callSi (va_Run.run (va_runV (As := [.int (nI (mk S_1 x1.toNatClampNeg)), .long v5_2]) (rest := []) ⟨hx, hb, hml, hown, hts⟩ (c_X7_power l o r (mk S_1 x1.toNatClampNeg) (mRow.k hI (mPl.row hL)) v5_2 hz) (cwV 2 hts (gV iX7_power (zin__r12 (.methodLink RX7 122 yX7_power) (List.mem_of_getElem? (i := 23) rfl))) rfl rfl rfl (by decide +kernel) ⟨Nat.le_of_ble_eq_true rfl, Nat.le_of_ble_eq_true rfl⟩) ⟨fun a U g mk q => ⟨q.1, mU_bl q.2⟩, (mW_rv hw), fun U hU hW => ⟨rfl, mU_mvH hm hU hW⟩⟩ rfl rfl hl.1 rfl (lv_room (Nat.le_of_ble_eq_true rfl)) dX7_cut_105 ⟨Nat.zero_le _, Nat.zero_le _⟩)) (fun r_105 hr_105 => ?_)
            subst hr_105
            exact K_108 (f_X7_power (mk S_1 x1.toNatClampNeg) v5_2) ls hf (lv_sub hl [1, 2, 3, 4, 0] rfl)
          · have hf : f_X7_cut S x1 x2 x3 = (f_X7_cut_6 (99 : Int32) S_1 x1 v5_2 w_4 v7_3) := hf.trans (if_neg c_92)
            refine lv_bipush (v := 99) hx hb dX7_cut_95 (by decide) ?_
            refine lv_goto (tgt := 108) hx hb dX7_cut_97 (by decide) ?_
            exact K_108 (99 : Int32) ls hf (lv_sub hl [1, 2, 3, 4, 0] rfl)
        refine lv_if_eq (tgt := 79) hx hb dX7_cut_70 (by decide) (fun c_70 => ?_) (fun c_70 => ?_)
        · have hf : f_X7_cut S x1 x2 x3 = (f_X7_cut_7 S_1 x1 v5_2 (9223372036854775807 : Int64) v7_3) := hf.trans (if_pos c_70)
          refine lv_ldc2 (v := 9223372036854775807) hx hb hown (hts _ (zin__r12 (.constantLong RX7 161 (9223372036854775807)) (List.mem_of_getElem? (i := 22) rfl))) dX7_cut_79 ?_
          exact K_82 (9223372036854775807 : Int64) ls hf (lv_sub hl [3, 2, 1, 0] rfl)
        · have hf : f_X7_cut S x1 x2 x3 = (f_X7_cut_7 S_1 x1 v5_2 (2147483647 : Int64) v7_3) := hf.trans (if_neg c_70)
          refine lv_ldc2 (v := 2147483647) hx hb hown (hts _ (zin__r12 (.constantLong RX7 159 (2147483647)) (List.mem_of_getElem? (i := 21) rfl))) dX7_cut_73 ?_
          refine lv_goto (tgt := 82) hx hb dX7_cut_76 (by decide) ?_
          exact K_82 (2147483647 : Int64) ls hf (lv_sub hl [3, 2, 1, 0] rfl)
      · have hf : f_X7_cut S x1 x2 x3 = ((0 : Int64), S_1) := hf.trans (if_neg c_54)
        refine lv_lconst (v := 0) hx hb dX7_cut_57 (by decide) ?_
        exact W.lret hx hb hr (fun t ht hW => ⟨⟨_, S_1, rfl, hf.symm, by rw [ht]; exact hP, va_K.moved hW.alike hK, hD⟩, hS.F ht⟩) hS.2.2 dX7_cut_58
  · have hf : f_X7_cut S x1 x2 x3 = ((0 : Int64), S_1) := hf.trans (if_neg c_14)
    refine lv_lconst (v := 0) hx hb dX7_cut_17 (by decide) ?_
    exact W.lret hx hb hr (fun t ht hW => ⟨⟨_, S_1, rfl, hf.symm, by rw [ht]; exact hP, va_K.moved hW.alike hK, hD⟩, hS.F ht⟩) hS.2.2 dX7_cut_18
