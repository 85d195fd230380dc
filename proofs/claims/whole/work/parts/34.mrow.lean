def f_X7_row_1 (p9 : Int32 × MSt) : Int32 × MSt := (p9.1, p9.2)
def f_X7_row_2 (S : MSt) : Int32 × MSt := (f_X7_row_1 (f_X7_no S (2 : Int32)))
def f_X7_row_3 (S : MSt) : Int32 × MSt := (f_X7_row_1 (f_X7_no S (5 : Int32)))
def f_X7_row_4 (S_6 : MSt) : Int32 × MSt := (((nI (mn S_6)) - (1 : Int32)), S_6)
def f_X7_row_5 (S_4 : MSt) : Int32 × MSt := (f_X7_row_4 (mset_s (mset_n S_4 (mn S_4 + 1)) (0 : Int32)))
def f_X7_row_6 (S_3 : MSt) (x1 : Int32) : Int32 × MSt := (f_X7_row_5 (mset_f S_3 (mfU S_3 x1)))
def f_X7_row_7 (x2 : Int32) (S : MSt) (x1 : Int32) : Int32 × MSt := if x2 = 0 then (f_X7_row_6 (mset_k S (mkU S 0)) x1) else (f_X7_row_6 (mset_k S (mkU S 1)) x1)
def f_X7_row_8 (S : MSt) (x1 : Int32) (x2 : Int32) : Int32 × MSt := if ((nI (mf S (nI (mn S)).toNatClampNeg)) + x1) ≤ (4000 : Int32) then (f_X7_row_7 x2 S x1) else (f_X7_row_3 S)
def f_X7_row_9 (S : MSt) (x1 : Int32) (x2 : Int32) : Int32 × MSt := if (nI (mn S)) = (64 : Int32) then (f_X7_row_3 S) else (f_X7_row_8 S x1 x2)
def f_X7_row_10 (x1 : Int32) (S : MSt) (x2 : Int32) : Int32 × MSt := if x1 ≤ (500 : Int32) then (f_X7_row_9 S x1 x2) else (f_X7_row_2 S)
def f_X7_row_11 (x1 : Int32) (S : MSt) (x2 : Int32) : Int32 × MSt := if x1 < (1 : Int32) then (f_X7_row_2 S) else (f_X7_row_10 x1 S x2)
def f_X7_row (S : MSt) (x1 : Int32) (x2 : Int32) : Int32 × MSt := (f_X7_row_11 x1 S x2)
def zX7_row : List Cond := .code yX7_row cX7_row 3 (some .int) :: zall
theorem iX7_row : MWv RX7 yX7_row (.code yX7_row cX7_row 3 (some .int)) := ⟨(zin__r4 (.instanceMethod yX7_row) (List.mem_of_getElem? (i := 9) rfl)), (zin__r4 (.selects RX7 yX7_row yX7_row) (List.mem_of_getElem? (i := 10) rfl)), (zin__r1 (.initialized RX7) (List.mem_of_getElem? (i := 5) rfl)), (zin__r4 (.code yX7_row cX7_row 3 (some .int)) (List.mem_of_getElem? (i := 11) rfl))⟩
set_option maxHeartbeats 4000000 in
set_option maxRecDepth 100000 in
theorem c_X7_row (l : Launch) (dC : Nat → ClassId) (dI : Nat → Nat → Nat) (o : Nat) (r : Nat → Nat) (cI cJ : ClassId) (sz : Nat) (S : MSt) (x1 : Int32) (x2 : Int32) (hI : mInv S) : Met l yX7_row zX7_row ({ frames := 1, cells := 0, slots := 0, locals := 21 }) (va_Pc [.ref o, .int x1, .int x2] (fun U => mB dC dI o r cI cJ sz S U)) (va_Qi (fun r9 S9 => (r9, S9) = f_X7_row S x1 x2) (mE dC dI o r cI cJ (va_A (mWs o r cI cJ S) sz)) (va_A (mWs o r cI cJ S) sz)) 0 0 (va_A (mWs o r cI cJ S) sz) := by
  refine Met.ofW (cc := cX7_row) (maxL := 3) (ret := (some .int)) (by decide) rfl ?_
  intro p e s m args below meth c s₁ B hml hv
  obtain ⟨rfl, hsz, hP, hK, hD0⟩ := hv
  have hx := B.exec
  have hb := B.bytes
  have hr := B.returns
  have hts : ∀ w ∈ zall, w.before _ s = true := fun w h => atoms_spec (ws := zX7_row) B.pre w (List.mem_cons_of_mem _ h)
  have hown : s.vm.findClass RX7 = some m.cls := findClass_of_methodNamed B.named
  have hlocks := B.notSynchronized
  subst hsz
  have hD := hD0.self (sz := s.heap.size)
  generalize hAe : va_A (mWs o r cI cJ S) s.heap.size = A at hD ⊢
  have hA : ∀ q : Nat, s.heap.size ≤ q → A q := fun q h => by rw [← hAe]; exact Or.inr h
  have hS : va_S A s.heap s.heap [] := va_S.rf
  have hw : mH dC dI o r cI cJ S s s.heap := ⟨hP, hK⟩
  have hm := mA_of hts hw
  have hl := lv_entry ([.ref o, .int x1, .int x2]) (n := 3) (Nat.le_of_ble_eq_true rfl)
  rw [lg_entry_eq]
  generalize (lg_sl ([.ref o, .int x1, .int x2]) ++ List.replicate (3 - (lg_sl ([.ref o, .int x1, .int x2])).length) Slot.unset).toArray = ls at hl ⊢
  have hl : lv_has ls 3 [(0, .ref o), (1, .int x1), (2, .int x2)] := hl
  have hf : f_X7_row S x1 x2 = (f_X7_row_11 x1 S x2) := rfl
  refine lv_iload_n hx hb dX7_row_0 rfl (lv_at hl 1 rfl) ?_
  refine lv_iconst (v := 1) hx hb dX7_row_1 (by decide) ?_
  refine W_cut (α := Unit) (pcJ := 12) (nL := 3) (fun v => f_X7_row S x1 x2 = (f_X7_row_2 S)) (fun v => []) (fun v => [(0, .ref o)]) (fun v ls hf hl => ?_) (fun K_12 => ?_)
  · have hf : f_X7_row S x1 x2 = (f_X7_row_1 (f_X7_no S (2 : Int32))) := hf
    have hl : lv_has ls 3 [(0, .ref o)] := hl
    refine lv_aload_n hx hb dX7_row_12 rfl (lv_at hl 0 rfl) ?_
    refine lv_iconst (v := 2) hx hb dX7_row_13 (by decide) ?_
    have hFc := va_free (wc := mWs o r cI cJ S) hD hS hA [0, 1, 2, 3, 4, 5, 6, 7, 8, 9, 10, 11, 12, 13, 14, 15, 16] rfl
    refine va_calli (va_runV (As := [.int (2 : Int32)]) (rest := []) ⟨hx, hb, hml, hown, hts⟩ (c_X7_no l dC dI o r cI cJ s.heap.size S (2 : Int32)) (cwV 1 hts (gV iX7_no (zin__r4 (.methodLink RX7 139 yX7_no) (List.mem_of_getElem? (i := 14) rfl))) rfl rfl rfl (by decide +kernel) ⟨Nat.le_of_ble_eq_true rfl, Nat.le_of_ble_eq_true rfl⟩) ⟨fun a U g mk q => ⟨q.1, mB_bl q.2⟩, mW_rv hw, fun U hU hW => ⟨rfl, mB_mv hw hD hU hW⟩⟩ rfl rfl hl.1 rfl (lv_room (Nat.le_of_ble_eq_true rfl)) dX7_row_14 ⟨Nat.zero_le _, Nat.zero_le _⟩) hS (fun q _ h => hFc q h) hFc (fun r_14 S_1 t H1 locs ht hvm hw1 hB hz1 hk1 hS => ?_)
    obtain ⟨hP, -, hD1⟩ := hB
    rw [ht] at hP
    have hD := hD1.weaken (fun k q _ h => hFc q.1 h)
    generalize H1 = H at hP hS ⊢
    have hw : mH dC dI o r cI cJ S_1 s H := ⟨hP, hK⟩
    have hm := mA_of hts hw
    have hf : f_X7_row S x1 x2 = (r_14, S_1) := hf.trans (congrArg (fun z => (f_X7_row_1 z)) hw1.symm)
    exact W.iret hx hb hr (fun t ht hW => ⟨⟨_, S_1, rfl, hf.symm, by rw [ht]; exact hP, va_K.moved hW.alike hK, hD⟩, hS.F ht⟩) hS.2.2 dX7_row_17
  refine lv_icmp_lt (tgt := 12) hx hb dX7_row_2 (by decide) (fun c_2 => ?_) (fun c_2 => ?_)
  · have hf : f_X7_row S x1 x2 = (f_X7_row_2 S) := hf.trans (if_pos c_2)
    exact K_12 () ls hf (lv_sub hl [0] rfl)
  · have hf : f_X7_row S x1 x2 = (f_X7_row_10 x1 S x2) := hf.trans (if_neg c_2)
    refine lv_iload_n hx hb dX7_row_5 rfl (lv_at hl 1 rfl) ?_
    refine lv_sipush (v := 500) hx hb dX7_row_6 (by decide) ?_
    refine lv_icmp_le (tgt := 18) hx hb dX7_row_9 (by decide) (fun c_9 => ?_) (fun c_9 => ?_)
    · have hf : f_X7_row S x1 x2 = (f_X7_row_9 S x1 x2) := hf.trans (if_pos c_9)
      refine lv_aload_n hx hb dX7_row_18 rfl (lv_at hl 0 rfl) ?_
      refine va_get (D := (dC, dI)) (ci := 5) (v := .int (nI (mn S))) (C := RX7) (T := TX7) (N := 18) hx hb hts zin_X7 hown hK hP 0 rfl rfl 16 (by decide) (hts _ (zin__r4 (.fieldLink RX7 79 "ReckonBenchModel" "rows" "I") (List.mem_of_getElem? (i := 12) rfl))) (fun _ h9 => h9) rfl dX7_row_19 ?_
      refine lv_bipush (v := 64) hx hb dX7_row_22 (by decide) ?_
      refine W_cut (α := Unit) (pcJ := 44) (nL := 3) (fun v => f_X7_row S x1 x2 = (f_X7_row_3 S)) (fun v => []) (fun v => [(0, .ref o)]) (fun v ls hf hl => ?_) (fun K_44 => ?_)
      · have hf : f_X7_row S x1 x2 = (f_X7_row_1 (f_X7_no S (5 : Int32))) := hf
        have hl : lv_has ls 3 [(0, .ref o)] := hl
        refine lv_aload_n hx hb dX7_row_44 rfl (lv_at hl 0 rfl) ?_
        refine lv_iconst (v := 5) hx hb dX7_row_45 (by decide) ?_
        have hFc := va_free (wc := mWs o r cI cJ S) hD hS hA [0, 1, 2, 3, 4, 5, 6, 7, 8, 9, 10, 11, 12, 13, 14, 15, 16] rfl
        refine va_calli (va_runV (As := [.int (5 : Int32)]) (rest := []) ⟨hx, hb, hml, hown, hts⟩ (c_X7_no l dC dI o r cI cJ s.heap.size S (5 : Int32)) (cwV 1 hts (gV iX7_no (zin__r4 (.methodLink RX7 139 yX7_no) (List.mem_of_getElem? (i := 14) rfl))) rfl rfl rfl (by decide +kernel) ⟨Nat.le_of_ble_eq_true rfl, Nat.le_of_ble_eq_true rfl⟩) ⟨fun a U g mk q => ⟨q.1, mB_bl q.2⟩, mW_rv hw, fun U hU hW => ⟨rfl, mB_mv hw hD hU hW⟩⟩ rfl rfl hl.1 rfl (lv_room (Nat.le_of_ble_eq_true rfl)) dX7_row_46 ⟨Nat.zero_le _, Nat.zero_le _⟩) hS (fun q _ h => hFc q h) hFc (fun r_46 S_2 t H1 locs ht hvm hw1 hB hz1 hk1 hS => ?_)
        obtain ⟨hP, -, hD1⟩ := hB
        rw [ht] at hP
        have hD := hD1.weaken (fun k q _ h => hFc q.1 h)
        generalize H1 = H at hP hS ⊢
        have hw : mH dC dI o r cI cJ S_2 s H := ⟨hP, hK⟩
        have hm := mA_of hts hw
        have hf : f_X7_row S x1 x2 = (r_46, S_2) := hf.trans (congrArg (fun z => (f_X7_row_1 z)) hw1.symm)
        exact W.iret hx hb hr (fun t ht hW => ⟨⟨_, S_2, rfl, hf.symm, by rw [ht]; exact hP, va_K.moved hW.alike hK, hD⟩, hS.F ht⟩) hS.2.2 dX7_row_49
      refine lv_icmp_eq (tgt := 44) hx hb dX7_row_24 (by decide) (fun c_24 => ?_) (fun c_24 => ?_)
      · have hf : f_X7_row S x1 x2 = (f_X7_row_3 S) := hf.trans (if_pos c_24)
        exact K_44 () ls hf (lv_sub hl [0] rfl)
      · have hf : f_X7_row S x1 x2 = (f_X7_row_8 S x1 x2) := hf.trans (if_neg c_24)
        have hn : mn S < 64 := mrow_n hI c_24
        refine lv_aload_n hx hb dX7_row_27 rfl (lv_at hl 0 rfl) ?_
        refine va_get (D := (dC, dI)) (ci := 5) (v := .ref (r 7)) (C := RX7) (T := TX7) (N := 18) hx hb hts zin_X7 hown hK hP 0 rfl rfl 7 (by decide) (hts _ (zin__r3 (.fieldLink RX7 48 "ReckonBenchModel" "first" "[I") (List.mem_of_getElem? (i := 1) rfl))) (fun _ h9 => h9) rfl dX7_row_28 ?_
        refine lv_aload_n hx hb dX7_row_31 rfl (lv_at hl 0 rfl) ?_
        refine va_get (D := (dC, dI)) (ci := 5) (v := .int (nI (mn S))) (C := RX7) (T := TX7) (N := 18) hx hb hts zin_X7 hown hK hP 0 rfl rfl 16 (by decide) (hts _ (zin__r4 (.fieldLink RX7 79 "ReckonBenchModel" "rows" "I") (List.mem_of_getElem? (i := 12) rfl))) (fun _ h9 => h9) rfl dX7_row_32 ?_
        refine va_iald (f := fun j => nI (mf S j)) hx hb hK hP 8 0 rfl rfl (in65 hn) dX7_row_35 ?_
        refine lv_iload_n hx hb dX7_row_36 rfl (lv_at hl 1 rfl) ?_
        refine lv_iadd hx hb dX7_row_37 ?_
        refine lv_sipush (v := 4000) hx hb dX7_row_38 (by decide) ?_
        refine lv_icmp_le (tgt := 50) hx hb dX7_row_41 (by decide) (fun c_41 => ?_) (fun c_41 => ?_)
        · have hf : f_X7_row S x1 x2 = (f_X7_row_7 x2 S x1) := hf.trans (if_pos c_41)
          have hx9 : 0 ≤ x1.toInt := mrow_x c_2
          refine lv_aload_n hx hb dX7_row_50 rfl (lv_at hl 0 rfl) ?_
          refine va_get (D := (dC, dI)) (ci := 5) (v := .ref (r 8)) (C := RX7) (T := TX7) (N := 18) hx hb hts zin_X7 hown hK hP 0 rfl rfl 8 (by decide) (hts _ (zin__r3 (.fieldLink RX7 51 "ReckonBenchModel" "kinds" "[I") (List.mem_of_getElem? (i := 2) rfl))) (fun _ h9 => h9) rfl dX7_row_51 ?_
          refine lv_aload_n hx hb dX7_row_54 rfl (lv_at hl 0 rfl) ?_
          refine va_get (D := (dC, dI)) (ci := 5) (v := .int (nI (mn S))) (C := RX7) (T := TX7) (N := 18) hx hb hts zin_X7 hown hK hP 0 rfl rfl 16 (by decide) (hts _ (zin__r4 (.fieldLink RX7 79 "ReckonBenchModel" "rows" "I") (List.mem_of_getElem? (i := 12) rfl))) (fun _ h9 => h9) rfl dX7_row_55 ?_
          refine lv_iload_n hx hb dX7_row_58 rfl (lv_at hl 2 rfl) ?_
          refine lv_if_eq (tgt := 66) hx hb dX7_row_59 (by decide) (fun c_59 => ?_) (fun c_59 => ?_)
          · have hf : f_X7_row S x1 x2 = (f_X7_row_6 (mset_k S (mkU S 0)) x1) := hf.trans (if_pos c_59)
            refine lv_iconst (v := 0) hx hb dX7_row_66 (by decide) ?_
            refine va_iast (f := fun j => nI (mk S j)) hx hb hK hP hD hS 9 0 rfl rfl (in64 hn) dX7_row_67 (fun H locs hP hD hS => ?_)
            rw [mrow_k0 hn] at hP hD
            obtain ⟨S_3, e_S_3⟩ : ∃ z : MSt, z = (mset_k S (mkU S 0)) := ⟨_, rfl⟩
            have hP : va_P (dC, dI) vwCl (mWs o r cI cJ S_3) H := by rw [e_S_3]; exact hP
            have hD : va_D A (mWs o r cI cJ S_3) := by rw [e_S_3]; exact hD
            have hw : mH dC dI o r cI cJ S_3 s H := ⟨hP, hK⟩
            have hm := mA_of hts hw
            have hn : mn S_3 < 64 := by rw [e_S_3]; exact hn
            have hf : f_X7_row S x1 x2 = (f_X7_row_6 S_3 x1) := hf.trans (congrArg (fun z => (f_X7_row_6 z x1)) e_S_3.symm)
            refine lv_aload_n hx hb dX7_row_68 rfl (lv_at hl 0 rfl) ?_
            refine va_get (D := (dC, dI)) (ci := 5) (v := .ref (r 7)) (C := RX7) (T := TX7) (N := 18) hx hb hts zin_X7 hown hK hP 0 rfl rfl 7 (by decide) (hts _ (zin__r3 (.fieldLink RX7 48 "ReckonBenchModel" "first" "[I") (List.mem_of_getElem? (i := 1) rfl))) (fun _ h9 => h9) rfl dX7_row_69 ?_
            refine lv_aload_n hx hb dX7_row_72 rfl (lv_at hl 0 rfl) ?_
            refine va_get (D := (dC, dI)) (ci := 5) (v := .int (nI (mn S_3))) (C := RX7) (T := TX7) (N := 18) hx hb hts zin_X7 hown hK hP 0 rfl rfl 16 (by decide) (hts _ (zin__r4 (.fieldLink RX7 79 "ReckonBenchModel" "rows" "I") (List.mem_of_getElem? (i := 12) rfl))) (fun _ h9 => h9) rfl dX7_row_73 ?_
            refine lv_iconst (v := 1) hx hb dX7_row_76 (by decide) ?_
            refine lv_iadd hx hb dX7_row_77 ?_
            refine lv_aload_n hx hb dX7_row_78 rfl (lv_at hl 0 rfl) ?_
            refine va_get (D := (dC, dI)) (ci := 5) (v := .ref (r 7)) (C := RX7) (T := TX7) (N := 18) hx hb hts zin_X7 hown hK hP 0 rfl rfl 7 (by decide) (hts _ (zin__r3 (.fieldLink RX7 48 "ReckonBenchModel" "first" "[I") (List.mem_of_getElem? (i := 1) rfl))) (fun _ h9 => h9) rfl dX7_row_79 ?_
            refine lv_aload_n hx hb dX7_row_82 rfl (lv_at hl 0 rfl) ?_
            refine va_get (D := (dC, dI)) (ci := 5) (v := .int (nI (mn S_3))) (C := RX7) (T := TX7) (N := 18) hx hb hts zin_X7 hown hK hP 0 rfl rfl 16 (by decide) (hts _ (zin__r4 (.fieldLink RX7 79 "ReckonBenchModel" "rows" "I") (List.mem_of_getElem? (i := 12) rfl))) (fun _ h9 => h9) rfl dX7_row_83 ?_
            refine va_iald (f := fun j => nI (mf S_3 j)) hx hb hK hP 8 0 rfl rfl (in65 hn) dX7_row_86 ?_
            refine lv_iload_n hx hb dX7_row_87 rfl (lv_at hl 1 rfl) ?_
            refine lv_iadd hx hb dX7_row_88 ?_
            refine va_iast (f := fun j => nI (mf S_3 j)) hx hb hK hP hD hS 8 0 rfl rfl (in65s hn) dX7_row_89 (fun H locs hP hD hS => ?_)
            rw [mrow_f hn hx9] at hP hD
            obtain ⟨S_4, e_S_4⟩ : ∃ z : MSt, z = (mset_f S_3 (mfU S_3 x1)) := ⟨_, rfl⟩
            have hP : va_P (dC, dI) vwCl (mWs o r cI cJ S_4) H := by rw [e_S_4]; exact hP
            have hD : va_D A (mWs o r cI cJ S_4) := by rw [e_S_4]; exact hD
            have hw : mH dC dI o r cI cJ S_4 s H := ⟨hP, hK⟩
            have hm := mA_of hts hw
            have hn : mn S_4 < 64 := by rw [e_S_4]; exact hn
            have hf : f_X7_row S x1 x2 = (f_X7_row_5 S_4) := hf.trans (congrArg (fun z => (f_X7_row_5 z)) e_S_4.symm)
            refine lv_aload_n hx hb dX7_row_90 rfl (lv_at hl 0 rfl) ?_
            refine lv_dup hx hb dX7_row_91 rfl ?_
            refine va_get (D := (dC, dI)) (ci := 5) (v := .int (nI (mn S_4))) (C := RX7) (T := TX7) (N := 18) hx hb hts zin_X7 hown hK hP 0 rfl rfl 16 (by decide) (hts _ (zin__r4 (.fieldLink RX7 79 "ReckonBenchModel" "rows" "I") (List.mem_of_getElem? (i := 12) rfl))) (fun _ h9 => h9) rfl dX7_row_92 ?_
            refine lv_iconst (v := 1) hx hb dX7_row_95 (by decide) ?_
            refine lv_iadd hx hb dX7_row_96 ?_
            refine va_put (D := (dC, dI)) (ci := 5) (v := .int ((nI (mn S_4)) + (1 : Int32))) (ty := .int) (C := RX7) (T := TX7) (N := 18) hx hb hts zin_X7 tyX7 tyX7_ok nmX7 hown hK hP hD hS 0 rfl rfl 16 (by decide) (hts _ (zin__r4 (.fieldLink RX7 79 "ReckonBenchModel" "rows" "I") (List.mem_of_getElem? (i := 12) rfl))) (fun _ h9 => h9) rfl (by decide +kernel) rfl rfl (Nat.le_of_ble_eq_true rfl) dX7_row_97 (fun H locs hP hD hS => ?_)
            rw [nI_1] at hP hD
            obtain ⟨S_5, e_S_5⟩ : ∃ z : MSt, z = (mset_n S_4 (mn S_4 + 1)) := ⟨_, rfl⟩
            have hP : va_P (dC, dI) vwCl (mWs o r cI cJ S_5) H := by rw [e_S_5]; exact hP
            have hD : va_D A (mWs o r cI cJ S_5) := by rw [e_S_5]; exact hD
            have hw : mH dC dI o r cI cJ S_5 s H := ⟨hP, hK⟩
            have hm := mA_of hts hw
            have hf : f_X7_row S x1 x2 = (f_X7_row_4 (mset_s S_5 (0 : Int32))) := hf.trans (congrArg (fun z => (f_X7_row_4 (mset_s z (0 : Int32)))) e_S_5.symm)
            refine lv_aload_n hx hb dX7_row_100 rfl (lv_at hl 0 rfl) ?_
            refine lv_iconst (v := 0) hx hb dX7_row_101 (by decide) ?_
            refine va_put (D := (dC, dI)) (ci := 5) (v := .int (0 : Int32)) (ty := .int) (C := RX7) (T := TX7) (N := 18) hx hb hts zin_X7 tyX7 tyX7_ok nmX7 hown hK hP hD hS 0 rfl rfl 17 (by decide) (hts _ (zin__r4 (.fieldLink RX7 75 "ReckonBenchModel" "status" "I") (List.mem_of_getElem? (i := 13) rfl))) (fun _ h9 => h9) rfl (by decide +kernel) rfl rfl (Nat.le_of_ble_eq_true rfl) dX7_row_102 (fun H locs hP hD hS => ?_)
            obtain ⟨S_6, e_S_6⟩ : ∃ z : MSt, z = (mset_s S_5 (0 : Int32)) := ⟨_, rfl⟩
            have hP : va_P (dC, dI) vwCl (mWs o r cI cJ S_6) H := by rw [e_S_6]; exact hP
            have hD : va_D A (mWs o r cI cJ S_6) := by rw [e_S_6]; exact hD
            have hw : mH dC dI o r cI cJ S_6 s H := ⟨hP, hK⟩
            have hm := mA_of hts hw
            have hf : f_X7_row S x1 x2 = (f_X7_row_4 S_6) := hf.trans (congrArg (fun z => (f_X7_row_4 z)) e_S_6.symm)
            refine lv_aload_n hx hb dX7_row_105 rfl (lv_at hl 0 rfl) ?_
            refine va_get (D := (dC, dI)) (ci := 5) (v := .int (nI (mn S_6))) (C := RX7) (T := TX7) (N := 18) hx hb hts zin_X7 hown hK hP 0 rfl rfl 16 (by decide) (hts _ (zin__r4 (.fieldLink RX7 79 "ReckonBenchModel" "rows" "I") (List.mem_of_getElem? (i := 12) rfl))) (fun _ h9 => h9) rfl dX7_row_106 ?_
            refine lv_iconst (v := 1) hx hb dX7_row_109 (by decide) ?_
            refine lv_isub hx hb dX7_row_110 ?_
            exact W.iret hx hb hr (fun t ht hW => ⟨⟨_, S_6, rfl, hf.symm, by rw [ht]; exact hP, va_K.moved hW.alike hK, hD⟩, hS.F ht⟩) hS.2.2 dX7_row_111
          · have hf : f_X7_row S x1 x2 = (f_X7_row_6 (mset_k S (mkU S 1)) x1) := hf.trans (if_neg c_59)
            refine lv_iconst (v := 1) hx hb dX7_row_62 (by decide) ?_
            refine lv_goto (tgt := 67) hx hb dX7_row_63 (by decide) ?_
            refine va_iast (f := fun j => nI (mk S j)) hx hb hK hP hD hS 9 0 rfl rfl (in64 hn) dX7_row_67 (fun H locs hP hD hS => ?_)
            rw [mrow_k1 hn] at hP hD
            obtain ⟨S_7, e_S_7⟩ : ∃ z : MSt, z = (mset_k S (mkU S 1)) := ⟨_, rfl⟩
            have hP : va_P (dC, dI) vwCl (mWs o r cI cJ S_7) H := by rw [e_S_7]; exact hP
            have hD : va_D A (mWs o r cI cJ S_7) := by rw [e_S_7]; exact hD
            have hw : mH dC dI o r cI cJ S_7 s H := ⟨hP, hK⟩
            have hm := mA_of hts hw
            have hn : mn S_7 < 64 := by rw [e_S_7]; exact hn
            have hf : f_X7_row S x1 x2 = (f_X7_row_6 S_7 x1) := hf.trans (congrArg (fun z => (f_X7_row_6 z x1)) e_S_7.symm)
            refine lv_aload_n hx hb dX7_row_68 rfl (lv_at hl 0 rfl) ?_
            refine va_get (D := (dC, dI)) (ci := 5) (v := .ref (r 7)) (C := RX7) (T := TX7) (N := 18) hx hb hts zin_X7 hown hK hP 0 rfl rfl 7 (by decide) (hts _ (zin__r3 (.fieldLink RX7 48 "ReckonBenchModel" "first" "[I") (List.mem_of_getElem? (i := 1) rfl))) (fun _ h9 => h9) rfl dX7_row_69 ?_
            refine lv_aload_n hx hb dX7_row_72 rfl (lv_at hl 0 rfl) ?_
            refine va_get (D := (dC, dI)) (ci := 5) (v := .int (nI (mn S_7))) (C := RX7) (T := TX7) (N := 18) hx hb hts zin_X7 hown hK hP 0 rfl rfl 16 (by decide) (hts _ (zin__r4 (.fieldLink RX7 79 "ReckonBenchModel" "rows" "I") (List.mem_of_getElem? (i := 12) rfl))) (fun _ h9 => h9) rfl dX7_row_73 ?_
            refine lv_iconst (v := 1) hx hb dX7_row_76 (by decide) ?_
            refine lv_iadd hx hb dX7_row_77 ?_
            refine lv_aload_n hx hb dX7_row_78 rfl (lv_at hl 0 rfl) ?_
            refine va_get (D := (dC, dI)) (ci := 5) (v := .ref (r 7)) (C := RX7) (T := TX7) (N := 18) hx hb hts zin_X7 hown hK hP 0 rfl rfl 7 (by decide) (hts _ (zin__r3 (.fieldLink RX7 48 "ReckonBenchModel" "first" "[I") (List.mem_of_getElem? (i := 1) rfl))) (fun _ h9 => h9) rfl dX7_row_79 ?_
            refine lv_aload_n hx hb dX7_row_82 rfl (lv_at hl 0 rfl) ?_
            refine va_get (D := (dC, dI)) (ci := 5) (v := .int (nI (mn S_7))) (C := RX7) (T := TX7) (N := 18) hx hb hts zin_X7 hown hK hP 0 rfl rfl 16 (by decide) (hts _ (zin__r4 (.fieldLink RX7 79 "ReckonBenchModel" "rows" "I") (List.mem_of_getElem? (i := 12) rfl))) (fun _ h9 => h9) rfl dX7_row_83 ?_
            refine va_iald (f := fun j => nI (mf S_7 j)) hx hb hK hP 8 0 rfl rfl (in65 hn) dX7_row_86 ?_
            refine lv_iload_n hx hb dX7_row_87 rfl (lv_at hl 1 rfl) ?_
            refine lv_iadd hx hb dX7_row_88 ?_
            refine va_iast (f := fun j => nI (mf S_7 j)) hx hb hK hP hD hS 8 0 rfl rfl (in65s hn) dX7_row_89 (fun H locs hP hD hS => ?_)
            rw [mrow_f hn hx9] at hP hD
            obtain ⟨S_8, e_S_8⟩ : ∃ z : MSt, z = (mset_f S_7 (mfU S_7 x1)) := ⟨_, rfl⟩
            have hP : va_P (dC, dI) vwCl (mWs o r cI cJ S_8) H := by rw [e_S_8]; exact hP
            have hD : va_D A (mWs o r cI cJ S_8) := by rw [e_S_8]; exact hD
            have hw : mH dC dI o r cI cJ S_8 s H := ⟨hP, hK⟩
            have hm := mA_of hts hw
            have hn : mn S_8 < 64 := by rw [e_S_8]; exact hn
            have hf : f_X7_row S x1 x2 = (f_X7_row_5 S_8) := hf.trans (congrArg (fun z => (f_X7_row_5 z)) e_S_8.symm)
            refine lv_aload_n hx hb dX7_row_90 rfl (lv_at hl 0 rfl) ?_
            refine lv_dup hx hb dX7_row_91 rfl ?_
            refine va_get (D := (dC, dI)) (ci := 5) (v := .int (nI (mn S_8))) (C := RX7) (T := TX7) (N := 18) hx hb hts zin_X7 hown hK hP 0 rfl rfl 16 (by decide) (hts _ (zin__r4 (.fieldLink RX7 79 "ReckonBenchModel" "rows" "I") (List.mem_of_getElem? (i := 12) rfl))) (fun _ h9 => h9) rfl dX7_row_92 ?_
            refine lv_iconst (v := 1) hx hb dX7_row_95 (by decide) ?_
            refine lv_iadd hx hb dX7_row_96 ?_
            refine va_put (D := (dC, dI)) (ci := 5) (v := .int ((nI (mn S_8)) + (1 : Int32))) (ty := .int) (C := RX7) (T := TX7) (N := 18) hx hb hts zin_X7 tyX7 tyX7_ok nmX7 hown hK hP hD hS 0 rfl rfl 16 (by decide) (hts _ (zin__r4 (.fieldLink RX7 79 "ReckonBenchModel" "rows" "I") (List.mem_of_getElem? (i := 12) rfl))) (fun _ h9 => h9) rfl (by decide +kernel) rfl rfl (Nat.le_of_ble_eq_true rfl) dX7_row_97 (fun H locs hP hD hS => ?_)
            rw [nI_1] at hP hD
            obtain ⟨S_9, e_S_9⟩ : ∃ z : MSt, z = (mset_n S_8 (mn S_8 + 1)) := ⟨_, rfl⟩
            have hP : va_P (dC, dI) vwCl (mWs o r cI cJ S_9) H := by rw [e_S_9]; exact hP
            have hD : va_D A (mWs o r cI cJ S_9) := by rw [e_S_9]; exact hD
            have hw : mH dC dI o r cI cJ S_9 s H := ⟨hP, hK⟩
            have hm := mA_of hts hw
            have hf : f_X7_row S x1 x2 = (f_X7_row_4 (mset_s S_9 (0 : Int32))) := hf.trans (congrArg (fun z => (f_X7_row_4 (mset_s z (0 : Int32)))) e_S_9.symm)
            refine lv_aload_n hx hb dX7_row_100 rfl (lv_at hl 0 rfl) ?_
            refine lv_iconst (v := 0) hx hb dX7_row_101 (by decide) ?_
            refine va_put (D := (dC, dI)) (ci := 5) (v := .int (0 : Int32)) (ty := .int) (C := RX7) (T := TX7) (N := 18) hx hb hts zin_X7 tyX7 tyX7_ok nmX7 hown hK hP hD hS 0 rfl rfl 17 (by decide) (hts _ (zin__r4 (.fieldLink RX7 75 "ReckonBenchModel" "status" "I") (List.mem_of_getElem? (i := 13) rfl))) (fun _ h9 => h9) rfl (by decide +kernel) rfl rfl (Nat.le_of_ble_eq_true rfl) dX7_row_102 (fun H locs hP hD hS => ?_)
            obtain ⟨S_10, e_S_10⟩ : ∃ z : MSt, z = (mset_s S_9 (0 : Int32)) := ⟨_, rfl⟩
            have hP : va_P (dC, dI) vwCl (mWs o r cI cJ S_10) H := by rw [e_S_10]; exact hP
            have hD : va_D A (mWs o r cI cJ S_10) := by rw [e_S_10]; exact hD
            have hw : mH dC dI o r cI cJ S_10 s H := ⟨hP, hK⟩
            have hm := mA_of hts hw
            have hf : f_X7_row S x1 x2 = (f_X7_row_4 S_10) := hf.trans (congrArg (fun z => (f_X7_row_4 z)) e_S_10.symm)
            refine lv_aload_n hx hb dX7_row_105 rfl (lv_at hl 0 rfl) ?_
            refine va_get (D := (dC, dI)) (ci := 5) (v := .int (nI (mn S_10))) (C := RX7) (T := TX7) (N := 18) hx hb hts zin_X7 hown hK hP 0 rfl rfl 16 (by decide) (hts _ (zin__r4 (.fieldLink RX7 79 "ReckonBenchModel" "rows" "I") (List.mem_of_getElem? (i := 12) rfl))) (fun _ h9 => h9) rfl dX7_row_106 ?_
            refine lv_iconst (v := 1) hx hb dX7_row_109 (by decide) ?_
            refine lv_isub hx hb dX7_row_110 ?_
            exact W.iret hx hb hr (fun t ht hW => ⟨⟨_, S_10, rfl, hf.symm, by rw [ht]; exact hP, va_K.moved hW.alike hK, hD⟩, hS.F ht⟩) hS.2.2 dX7_row_111
        · have hf : f_X7_row S x1 x2 = (f_X7_row_3 S) := hf.trans (if_neg c_41)
          exact K_44 () ls hf (lv_sub hl [0] rfl)
    · have hf : f_X7_row S x1 x2 = (f_X7_row_2 S) := hf.trans (if_neg c_9)
      exact K_12 () ls hf (lv_sub hl [0] rfl)
