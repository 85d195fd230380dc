def f_X6_row_1 (p9 : Int32 × CSt) : Nat → Nat → Int32 × CSt := (fun _ _ => (p9.1, p9.2))
def f_X6_row_2 (S : CSt) : Nat → Nat → Int32 × CSt := (f_X6_row_1 (f_X6_refuse S (2 : Int32)))
def f_X6_row_3 (S : CSt) : Nat → Nat → Int32 × CSt := (f_X6_row_1 (f_X6_refuse S (5 : Int32)))
def f_X6_row_4 (p9 : Int32 × CSt) : Int32 × CSt := (p9.1, p9.2)
def f_X6_row_5 (p9 : Int32 × CSt) : Int32 × CSt := (p9.1, p9.2)
def f_X6_row_6 (x2 : Int32) (S : CSt) (x1 : Int32) (v3_3 : Int32) : Nat → Nat → Int32 × CSt := if x2 = 0 then (fun (q na : Nat) => (f_X6_row_4 (f_X6_answer (cadd S q na 0 x1) v3_3))) else (fun (q na : Nat) => (f_X6_row_5 (f_X6_answer (cadd S q na 1 x1) v3_3)))
def f_X6_row_7 (x1 : Int32) (S : CSt) (x2 : Int32) : Nat → Nat → Int32 × CSt := if x1 ≤ ((4000 : Int32) - (ccn S)) then (f_X6_row_6 x2 S x1 (nI (cn S))) else (f_X6_row_3 S)
def f_X6_row_8 (S : CSt) (x1 : Int32) (x2 : Int32) : Nat → Nat → Int32 × CSt := if (64 : Int32) ≤ (nI (cn S)) then (f_X6_row_3 S) else (f_X6_row_7 x1 S x2)
def f_X6_row_9 (x1 : Int32) (S : CSt) (x2 : Int32) : Nat → Nat → Int32 × CSt := if x1 ≤ (500 : Int32) then (f_X6_row_8 S x1 x2) else (f_X6_row_2 S)
def f_X6_row_10 (x1 : Int32) (S : CSt) (x2 : Int32) : Nat → Nat → Int32 × CSt := if x1 < (1 : Int32) then (f_X6_row_2 S) else (f_X6_row_9 x1 S x2)
def f_X6_row (S : CSt) (x1 : Int32) (x2 : Int32) : Nat → Nat → Int32 × CSt := (f_X6_row_10 x1 S x2)
def zX6_row : List Cond := .code yX6_row cX6_row 4 (some .int) :: zall
theorem iX6_row : MWv RX6 yX6_row (.code yX6_row cX6_row 4 (some .int)) := ⟨(zin__r2 (.instanceMethod yX6_row) (List.mem_of_getElem? (i := 7) rfl)), (zin__r2 (.selects RX6 yX6_row yX6_row) (List.mem_of_getElem? (i := 8) rfl)), (zin__r1 (.initialized RX6) (List.mem_of_getElem? (i := 2) rfl)), (zin__r2 (.code yX6_row cX6_row 4 (some .int)) (List.mem_of_getElem? (i := 9) rfl))⟩
set_option maxHeartbeats 4000000 in
set_option maxRecDepth 100000 in
theorem c_X6_row (l : Launch) (dC : Nat → ClassId) (dI : Nat → Nat → Nat) (ad : Nat → Nat) (o rw so ba ma : Nat) (cR cJ : ClassId) (sz : Nat) (S : CSt) (x1 : Int32) (x2 : Int32) (hI : cInv S) : Met l yX6_row zX6_row ({ frames := 2, cells := 2, slots := 502, locals := 34 }) (va_Pc [.ref o, .int x1, .int x2] (fun U => cB dC dI ad o rw so ba ma cR cJ sz S U ∧ kZ ad (va_A (cWs ad o rw so ba ma cR cJ S) sz) U U.heap)) (va_Qi (fun r9 S9 => ∃ q na : Nat, (r9, S9) = f_X6_row S x1 x2 q na) (cE dC dI ad o rw so ba ma cR cJ (va_A (cWs ad o rw so ba ma cR cJ S) sz)) (va_A (cWs ad o rw so ba ma cR cJ S) sz)) 2 502 (va_A (cWs ad o rw so ba ma cR cJ S) sz) := by
  refine Met.ofW (cc := cX6_row) (maxL := 4) (ret := (some .int)) (by decide) rfl ?_
  intro p e s m args below meth c s₁ B hml hv
  obtain ⟨rfl, ⟨hsz, hP, hK, hD0, hkA⟩, hZ⟩ := hv
  have hx := B.exec
  have hb := B.bytes
  have hr := B.returns
  have hts : ∀ w ∈ zall, w.before _ s = true := fun w h => atoms_spec (ws := zX6_row) B.pre w (List.mem_cons_of_mem _ h)
  have hown : s.vm.findClass RX6 = some m.cls := findClass_of_methodNamed B.named
  have hlocks := B.notSynchronized
  subst hsz
  have hD := hD0.self (sz := s.heap.size)
  generalize hAe : va_A (cWs ad o rw so ba ma cR cJ S) s.heap.size = A at hD hkA hZ ⊢
  have hA : ∀ q : Nat, s.heap.size ≤ q → A q := fun q h => by rw [← hAe]; exact Or.inr h
  have hS : va_S A s.heap s.heap [] := va_S.rf
  have hw : cH dC dI ad o rw so ba ma cR cJ S s s.heap := ⟨hP, hK⟩
  have hk := kA_at hkA hS
  have hl := lv_entry ([.ref o, .int x1, .int x2]) (n := 4) (Nat.le_of_ble_eq_true rfl)
  rw [lg_entry_eq]
  generalize (lg_sl ([.ref o, .int x1, .int x2]) ++ List.replicate (4 - (lg_sl ([.ref o, .int x1, .int x2])).length) Slot.unset).toArray = ls at hl ⊢
  have hl : lv_has ls 4 [(0, .ref o), (1, .int x1), (2, .int x2)] := hl
  have hf : f_X6_row S x1 x2 = (f_X6_row_10 x1 S x2) := rfl
  refine lv_iload_n hx hb dX6_row_0 rfl (lv_at hl 1 rfl) ?_
  refine lv_iconst (v := 1) hx hb dX6_row_1 (by decide) ?_
  refine W_cut (α := Unit) (pcJ := 12) (nL := 4) (fun v => f_X6_row S x1 x2 = (f_X6_row_2 S)) (fun v => []) (fun v => [(0, .ref o)]) (fun v ls hf hl => ?_) (fun K_12 => ?_)
  · have hf : f_X6_row S x1 x2 = (f_X6_row_1 (f_X6_refuse S (2 : Int32))) := hf
    have hl : lv_has ls 4 [(0, .ref o)] := hl
    refine lv_aload_n hx hb dX6_row_12 rfl (lv_at hl 0 rfl) ?_
    refine lv_iconst (v := 2) hx hb dX6_row_13 (by decide) ?_
    have hFc := va_freeAll hD hS hA
    refine va_calli (va_runV (As := [.int (2 : Int32)]) (rest := []) ⟨hx, hb, hml, hown, hts⟩ (c_X6_refuse l dC dI ad o rw so ba ma cR cJ s.heap.size S (2 : Int32)) (cwV 1 hts (gV iX6_refuse (zin__r2 (.methodLink RX6 32 yX6_refuse) (List.mem_of_getElem? (i := 14) rfl))) rfl rfl rfl (by decide +kernel) ⟨Nat.le_of_ble_eq_true rfl, Nat.le_of_ble_eq_true rfl⟩) ⟨fun a U g mk q => ⟨q.1, cB_bl q.2⟩, cW_rv hw, fun U hU hW => ⟨rfl, cB_mv hw hD (kA_in hkA hS hFc) hU hW⟩⟩ rfl rfl hl.1 rfl (lv_room (Nat.le_of_ble_eq_true rfl)) dX6_row_14 ⟨Nat.le_of_ble_eq_true rfl, Nat.le_of_ble_eq_true rfl⟩) hS (fun q _ h => hFc q h) hFc (fun r_14 S_1 t H1 locs ht hvm hw1 hB hz1 hk1 hS => ?_)
    obtain ⟨hP, -, hD1⟩ := hB
    rw [ht] at hP
    have hD := hD1.weaken (fun k q _ h => hFc q.1 h)
    generalize H1 = H at hP hS ⊢
    have hw : cH dC dI ad o rw so ba ma cR cJ S_1 s H := ⟨hP, hK⟩
    have hk := kA_at hkA hS
    have hf : f_X6_row S x1 x2 = (fun _ _ => (r_14, S_1)) := hf.trans (congrArg (fun z => (f_X6_row_1 z)) hw1.symm)
    refine W.widen (k := 2) (n := 502) (Nat.le_of_ble_eq_true rfl) (Nat.le_of_ble_eq_true rfl) ?_
    exact W.iret hx hb hr (fun t ht hW => ⟨⟨_, S_1, rfl, ⟨0, 0, (congrFun (congrFun hf 0) 0).symm⟩, by rw [ht]; exact hP, va_K.moved hW.alike hK, hD⟩, hS.F ht⟩) hS.2.2 dX6_row_17
  refine lv_icmp_lt (tgt := 12) hx hb dX6_row_2 (by decide) (fun c_2 => ?_) (fun c_2 => ?_)
  · have hf : f_X6_row S x1 x2 = (f_X6_row_2 S) := hf.trans (if_pos c_2)
    exact K_12 () ls hf (lv_sub hl [0] rfl)
  · have hf : f_X6_row S x1 x2 = (f_X6_row_9 x1 S x2) := hf.trans (if_neg c_2)
    refine lv_iload_n hx hb dX6_row_5 rfl (lv_at hl 1 rfl) ?_
    refine lv_sipush (v := 500) hx hb dX6_row_6 (by decide) ?_
    refine lv_icmp_le (tgt := 18) hx hb dX6_row_9 (by decide) (fun c_9 => ?_) (fun c_9 => ?_)
    · have hf : f_X6_row S x1 x2 = (f_X6_row_8 S x1 x2) := hf.trans (if_pos c_9)
      refine lv_aload_n hx hb dX6_row_18 rfl (lv_at hl 0 rfl) ?_
      refine va_get (D := (dC, dI)) (ci := 4) (v := .int (nI (cn S))) (C := RX6) (T := TX6) (N := 5) hx hb hts zin_X6 hown hK hP 0 rfl rfl 2 (by decide) (hts _ (zin__r1 (.fieldLink RX6 22 "ReckonBench" "rowCount" "I") (List.mem_of_getElem? (i := 16) rfl))) (fun _ h9 => h9) rfl dX6_row_19 ?_
      refine lv_bipush (v := 64) hx hb dX6_row_22 (by decide) ?_
      refine W_cut (α := Unit) (pcJ := 39) (nL := 4) (fun v => f_X6_row S x1 x2 = (f_X6_row_3 S)) (fun v => []) (fun v => [(0, .ref o)]) (fun v ls hf hl => ?_) (fun K_39 => ?_)
      · have hf : f_X6_row S x1 x2 = (f_X6_row_1 (f_X6_refuse S (5 : Int32))) := hf
        have hl : lv_has ls 4 [(0, .ref o)] := hl
        refine lv_aload_n hx hb dX6_row_39 rfl (lv_at hl 0 rfl) ?_
        refine lv_iconst (v := 5) hx hb dX6_row_40 (by decide) ?_
        have hFc := va_freeAll hD hS hA
        refine va_calli (va_runV (As := [.int (5 : Int32)]) (rest := []) ⟨hx, hb, hml, hown, hts⟩ (c_X6_refuse l dC dI ad o rw so ba ma cR cJ s.heap.size S (5 : Int32)) (cwV 1 hts (gV iX6_refuse (zin__r2 (.methodLink RX6 32 yX6_refuse) (List.mem_of_getElem? (i := 14) rfl))) rfl rfl rfl (by decide +kernel) ⟨Nat.le_of_ble_eq_true rfl, Nat.le_of_ble_eq_true rfl⟩) ⟨fun a U g mk q => ⟨q.1, cB_bl q.2⟩, cW_rv hw, fun U hU hW => ⟨rfl, cB_mv hw hD (kA_in hkA hS hFc) hU hW⟩⟩ rfl rfl hl.1 rfl (lv_room (Nat.le_of_ble_eq_true rfl)) dX6_row_41 ⟨Nat.le_of_ble_eq_true rfl, Nat.le_of_ble_eq_true rfl⟩) hS (fun q _ h => hFc q h) hFc (fun r_41 S_2 t H1 locs ht hvm hw1 hB hz1 hk1 hS => ?_)
        obtain ⟨hP, -, hD1⟩ := hB
        rw [ht] at hP
        have hD := hD1.weaken (fun k q _ h => hFc q.1 h)
        generalize H1 = H at hP hS ⊢
        have hw : cH dC dI ad o rw so ba ma cR cJ S_2 s H := ⟨hP, hK⟩
        have hk := kA_at hkA hS
        have hf : f_X6_row S x1 x2 = (fun _ _ => (r_41, S_2)) := hf.trans (congrArg (fun z => (f_X6_row_1 z)) hw1.symm)
        refine W.widen (k := 2) (n := 502) (Nat.le_of_ble_eq_true rfl) (Nat.le_of_ble_eq_true rfl) ?_
        exact W.iret hx hb hr (fun t ht hW => ⟨⟨_, S_2, rfl, ⟨0, 0, (congrFun (congrFun hf 0) 0).symm⟩, by rw [ht]; exact hP, va_K.moved hW.alike hK, hD⟩, hS.F ht⟩) hS.2.2 dX6_row_44
      refine lv_icmp_ge (tgt := 39) hx hb dX6_row_24 (by decide) (fun c_24 => ?_) (fun c_24 => ?_)
      · have hf : f_X6_row S x1 x2 = (f_X6_row_3 S) := hf.trans (if_pos c_24)
        exact K_39 () ls hf (lv_sub hl [0] rfl)
      · have hf : f_X6_row S x1 x2 = (f_X6_row_7 x1 S x2) := hf.trans (if_neg c_24)
        refine lv_iload_n hx hb dX6_row_27 rfl (lv_at hl 1 rfl) ?_
        refine lv_sipush (v := 4000) hx hb dX6_row_28 (by decide) ?_
        refine lv_aload_n hx hb dX6_row_31 rfl (lv_at hl 0 rfl) ?_
        refine va_get (D := (dC, dI)) (ci := 4) (v := .int (ccn S)) (C := RX6) (T := TX6) (N := 5) hx hb hts zin_X6 hown hK hP 0 rfl rfl 3 (by decide) (hts _ (zin__r1 (.fieldLink RX6 26 "ReckonBench" "numberCount" "I") (List.mem_of_getElem? (i := 17) rfl))) (fun _ h9 => h9) rfl dX6_row_32 ?_
        refine lv_isub hx hb dX6_row_35 ?_
        refine lv_icmp_le (tgt := 45) hx hb dX6_row_36 (by decide) (fun c_36 => ?_) (fun c_36 => ?_)
        · have hf : f_X6_row S x1 x2 = (f_X6_row_6 x2 S x1 (nI (cn S))) := hf.trans (if_pos c_36)
          refine lv_aload_n hx hb dX6_row_45 rfl (lv_at hl 0 rfl) ?_
          refine va_get (D := (dC, dI)) (ci := 4) (v := .int (nI (cn S))) (C := RX6) (T := TX6) (N := 5) hx hb hts zin_X6 hown hK hP 0 rfl rfl 2 (by decide) (hts _ (zin__r1 (.fieldLink RX6 22 "ReckonBench" "rowCount" "I") (List.mem_of_getElem? (i := 16) rfl))) (fun _ h9 => h9) rfl dX6_row_46 ?_
          refine lv_topi (fun v3_3 e_v3_3 => ?_)
          have hf : f_X6_row S x1 x2 = (f_X6_row_6 x2 S x1 v3_3) := hf.trans (congrArg (fun z => (f_X6_row_6 x2 S x1 z)) e_v3_3.symm)
          refine lv_istore_n (lv' := [(3, .int v3_3), (0, .ref o), (1, .int x1), (2, .int x2)]) hx hb dX6_row_49 rfl hl (by decide) rfl (fun ls hl => ?_)
          refine lv_aload_n hx hb dX6_row_50 rfl (lv_at hl 1 rfl) ?_
          refine va_get (D := (dC, dI)) (ci := 4) (v := .ref rw) (C := RX6) (T := TX6) (N := 5) hx hb hts zin_X6 hown hK hP 0 rfl rfl 0 (by decide) (hts _ (zin__r1 (.fieldLink RX6 11 "ReckonBench" "rows" "[LReckonBench$Row;") (List.mem_of_getElem? (i := 11) rfl))) (fun _ h9 => h9) rfl dX6_row_51 ?_
          refine lv_iload_n hx hb dX6_row_54 rfl (lv_at hl 0 rfl) ?_
          obtain ⟨N, hN1, hN, e_N⟩ : ∃ N : Nat, 1 ≤ N ∧ N ≤ 500 ∧ x1 = nI N := row_n c_2 c_9
          refine va_new (ci := 2) (fs := [.null, .null]) (C := RX3) (T := TX3) (N := 2) hx hb hts zin_X3 tyX3 tyX3_ok hown (hts _ (zin__r1 (.classLink RX6 9 RX3) (List.mem_of_getElem? (i := 10) rfl))) (hts _ (zin__r2 (.instantiable RX3 2) (List.mem_of_getElem? (i := 10) rfl))) (hts _ (zin__r2 (.initialized RX3) (List.mem_of_getElem? (i := 11) rfl))) hK hP hD hS hA rfl (fun j hj => by rcases (show j = 0 ∨ j = 1 by omega) with rfl | rfl <;> rfl) (Nat.le_of_ble_eq_true rfl) (Nat.le_of_ble_eq_true rfl) dX6_row_55 (fun q H hP hD hS => ?_)
          refine lv_dup hx hb dX6_row_58 rfl ?_
          refine lv_iload_n hx hb dX6_row_59 rfl (lv_at hl 3 rfl) ?_
          refine lv_if_eq (tgt := 69) hx hb dX6_row_60 (by decide) (fun c_60 => ?_) (fun c_60 => ?_)
          · have hf : f_X6_row S x1 x2 = (fun (q na : Nat) => (f_X6_row_4 (f_X6_answer (cadd S q na 0 x1) v3_3))) := hf.trans (if_pos c_60)
            refine va_gets hx hb hZ.1 hS hown (hts _ (zin__r2 (.fieldLink RX6 42 "ReckonBench$Kind" "DOUBLE" "LReckonBench$Kind;") (List.mem_of_getElem? (i := 13) rfl))) (fun _ h9 => h9) dX6_row_69 ?_
            refine lv_iload_n hx hb dX6_row_72 rfl (lv_at hl 2 rfl) ?_
            have hFc := cG_free hD hS hA
            refine va_callv (va_runI (As := [.ref (ad 0), .int x1]) (rest := [.ref q, .int v3_3, .ref rw]) ⟨hx, hb, hml, hown, hts⟩ (c_X3_initx l dC dI ad q 0 N hN H.size x1 e_N) (cwI 2 hts (gI iX3_init.2.2) rfl rfl rfl (hts _ iX3_init.2.1) (hts _ (zin__r2 (.methodLink RX6 45 yX3_init) (List.mem_of_getElem? (i := 18) rfl))) (hts _ iX3_init.1) rfl (by decide +kernel) ⟨Nat.le_of_ble_eq_true rfl, Nat.le_of_ble_eq_true rfl⟩) ⟨fun a U g mk q9 => by obtain ⟨q0, q1, qP, qK, qD⟩ := q9; exact ⟨q0, q1, qP, va_K.moved (u := U) (U := U.calling g mk a) (Vm.Alike.refl U.vm) qK, qD⟩, fun U hU hW => ⟨rfl, by rw [hU], by rw [hU]; exact cG_last hP, va_K.moved hW.alike (hK.sub [] rfl), va_D_one⟩⟩ rfl rfl hl.1 rfl (lv_room (Nat.le_of_ble_eq_true rfl)) dX6_row_73 ⟨Nat.le_of_ble_eq_true rfl, (show 0 + 2 + N ≤ 502 by omega)⟩) hS (fun q _ h => hFc q h) hFc (fun u t H1 locs ht hvm _ hB hz1 hk1 hS => ?_)
            obtain ⟨na, cA⟩ := u
            obtain ⟨hP1, hK1, hD1⟩ := hB
            rw [ht] at hP1
            have hK1 := va_K.moved hvm.symm hK1
            have e_c : cJ = cA := ty_eqJ (hK.app hK1) 1 2 rfl rfl
            subst e_c
            obtain ⟨hP, hD⟩ := cG_of hP hD hk1 hFc hP1 hD1
            generalize H1 = H at hP hS ⊢
            refine W.widen (k := 2) (n := 502) (Nat.le_refl 2) (show 0 + 2 + N ≤ 502 by omega) ?_
            have e_v : v3_3 = nI (cn S) := e_v3_3
            have hlt : cn S < 64 := row_lt hI c_24
            refine va_astq (f := cRows S) hx hb hK hP hD hS 1 0 (5 + (cn S + cn S + 0)) 2 rfl rfl cG_end rfl (by rw [e_v]; exact vp_in_nI hlt (by decide)) dX6_row_76 (fun H locs hP hD hS => ?_)
            have hP : va_P (dC, dI) vwCl (cGo ad o rw so ba ma cR cJ S (nI (cn S)) (ccn S) (va_up (cRows S) v3_3.toNatClampNeg (some q)) q 0 na N) H := hP
            have hD : va_D A (cGo ad o rw so ba ma cR cJ S (nI (cn S)) (ccn S) (va_up (cRows S) v3_3.toNatClampNeg (some q)) q 0 na N) := hD
            refine lv_aload_n hx hb dX6_row_77 rfl (lv_at hl 1 rfl) ?_
            refine lv_dup hx hb dX6_row_78 rfl ?_
            refine va_get (D := (dC, dI)) (ci := 4) (v := .int (nI (cn S))) (C := RX6) (T := TX6) (N := 5) hx hb hts zin_X6 hown hK hP 0 rfl rfl 2 (by decide) (hts _ (zin__r1 (.fieldLink RX6 22 "ReckonBench" "rowCount" "I") (List.mem_of_getElem? (i := 16) rfl))) (fun _ h9 => h9) rfl dX6_row_79 ?_
            refine lv_iconst (v := 1) hx hb dX6_row_82 (by decide) ?_
            refine lv_iadd hx hb dX6_row_83 ?_
            refine va_put (D := (dC, dI)) (ci := 4) (v := .int (nI (cn S) + (1 : Int32))) (ty := .int) (C := RX6) (T := TX6) (N := 5) hx hb hts zin_X6 tyX6 tyX6_ok nmX6 hown hK hP hD hS 0 rfl rfl 2 (by decide) (hts _ (zin__r1 (.fieldLink RX6 22 "ReckonBench" "rowCount" "I") (List.mem_of_getElem? (i := 16) rfl))) (fun _ h9 => h9) rfl (by decide +kernel) rfl rfl (Nat.le_of_ble_eq_true rfl) dX6_row_84 (fun H locs hP hD hS => ?_)
            have hP : va_P (dC, dI) vwCl (cGo ad o rw so ba ma cR cJ S (nI (cn S) + (1 : Int32)) (ccn S) (va_up (cRows S) v3_3.toNatClampNeg (some q)) q 0 na N) H := hP
            have hD : va_D A (cGo ad o rw so ba ma cR cJ S (nI (cn S) + (1 : Int32)) (ccn S) (va_up (cRows S) v3_3.toNatClampNeg (some q)) q 0 na N) := hD
            refine lv_aload_n hx hb dX6_row_87 rfl (lv_at hl 1 rfl) ?_
            refine lv_dup hx hb dX6_row_88 rfl ?_
            refine va_get (D := (dC, dI)) (ci := 4) (v := .int (ccn S)) (C := RX6) (T := TX6) (N := 5) hx hb hts zin_X6 hown hK hP 0 rfl rfl 3 (by decide) (hts _ (zin__r1 (.fieldLink RX6 26 "ReckonBench" "numberCount" "I") (List.mem_of_getElem? (i := 17) rfl))) (fun _ h9 => h9) rfl dX6_row_89 ?_
            refine lv_iload_n hx hb dX6_row_92 rfl (lv_at hl 2 rfl) ?_
            refine lv_iadd hx hb dX6_row_93 ?_
            refine va_put (D := (dC, dI)) (ci := 4) (v := .int (ccn S + x1)) (ty := .int) (C := RX6) (T := TX6) (N := 5) hx hb hts zin_X6 tyX6 tyX6_ok nmX6 hown hK hP hD hS 0 rfl rfl 3 (by decide) (hts _ (zin__r1 (.fieldLink RX6 26 "ReckonBench" "numberCount" "I") (List.mem_of_getElem? (i := 17) rfl))) (fun _ h9 => h9) rfl (by decide +kernel) rfl rfl (Nat.le_of_ble_eq_true rfl) dX6_row_94 (fun H locs hP hD hS => ?_)
            have hP : va_P (dC, dI) vwCl (cGo ad o rw so ba ma cR cJ S (nI (cn S) + (1 : Int32)) (ccn S + x1) (va_up (cRows S) v3_3.toNatClampNeg (some q)) q 0 na N) H := hP
            have hD : va_D A (cGo ad o rw so ba ma cR cJ S (nI (cn S) + (1 : Int32)) (ccn S + x1) (va_up (cRows S) v3_3.toNatClampNeg (some q)) q 0 na N) := hD
            obtain ⟨S_9, e_S_9⟩ : ∃ z : CSt, z = (cadd S q na 0 x1) := ⟨_, rfl⟩
            have hPD : va_P (dC, dI) vwCl (cWs ad o rw so ba ma cR cJ S_9) H ∧ va_D A (cWs ad o rw so ba ma cR cJ S_9) := by
              rw [e_v, nI_clamp (by omega), nI_1, e_N] at hP hD
              rw [e_S_9, e_N]
              exact cG_done hN hP hD
            obtain ⟨hP, hD⟩ := hPD
            have hw : cH dC dI ad o rw so ba ma cR cJ S_9 s H := ⟨hP, hK⟩
            have hk := kA_at hkA hS
            have hf : f_X6_row S x1 x2 q na = (f_X6_row_4 (f_X6_answer S_9 v3_3)) := by rw [e_S_9]; exact congrFun (congrFun hf q) na
            refine lv_aload_n hx hb dX6_row_97 rfl (lv_at hl 1 rfl) ?_
            refine lv_iload_n hx hb dX6_row_98 rfl (lv_at hl 0 rfl) ?_
            have hFc := va_freeAll hD hS hA
            refine va_calli (va_runV (As := [.int v3_3]) (rest := []) ⟨hx, hb, hml, hown, hts⟩ (c_X6_answer l dC dI ad o rw so ba ma cR cJ H.size S_9 v3_3) (cwV 1 hts (gV iX6_answer (zin__r3 (.methodLink RX6 48 yX6_answer) (List.mem_of_getElem? (i := 0) rfl))) rfl rfl rfl (by decide +kernel) ⟨Nat.le_of_ble_eq_true rfl, Nat.le_of_ble_eq_true rfl⟩) ⟨fun a U g mk q => ⟨q.1, cB_bl q.2⟩, cW_rv hw, fun U hU hW => ⟨rfl, cB_mv hw hD (kA_in hkA hS hFc) hU hW⟩⟩ rfl rfl hl.1 rfl (lv_room (Nat.le_of_ble_eq_true rfl)) dX6_row_99 ⟨Nat.le_of_ble_eq_true rfl, Nat.le_of_ble_eq_true rfl⟩) hS (fun q _ h => hFc q h) hFc (fun r_99 S_4 t H1 locs ht hvm hw1 hB hz1 hk1 hS => ?_)
            obtain ⟨hP, -, hD1⟩ := hB
            rw [ht] at hP
            have hD := hD1.weaken (fun k q _ h => hFc q.1 h)
            generalize H1 = H at hP hS ⊢
            have hw : cH dC dI ad o rw so ba ma cR cJ S_4 s H := ⟨hP, hK⟩
            have hk := kA_at hkA hS
            have hf : f_X6_row S x1 x2 q na = (r_99, S_4) := hf.trans (congrArg (fun z => (f_X6_row_4 z)) hw1.symm)
            refine W.widen (k := 2) (n := 502) (Nat.le_of_ble_eq_true rfl) (Nat.le_of_ble_eq_true rfl) ?_
            exact W.iret hx hb hr (fun t ht hW => ⟨⟨_, S_4, rfl, ⟨q, na, hf.symm⟩, by rw [ht]; exact hP, va_K.moved hW.alike hK, hD⟩, hS.F ht⟩) hS.2.2 dX6_row_102
          · have hf : f_X6_row S x1 x2 = (fun (q na : Nat) => (f_X6_row_5 (f_X6_answer (cadd S q na 1 x1) v3_3))) := hf.trans (if_neg c_60)
            refine va_gets hx hb hZ.2 hS hown (hts _ (zin__r2 (.fieldLink RX6 36 "ReckonBench$Kind" "SINGLE" "LReckonBench$Kind;") (List.mem_of_getElem? (i := 12) rfl))) (fun _ h9 => h9) dX6_row_63 ?_
            refine lv_goto (tgt := 72) hx hb dX6_row_66 (by decide) ?_
            refine lv_iload_n hx hb dX6_row_72 rfl (lv_at hl 2 rfl) ?_
            have hFc := cG_free hD hS hA
            refine va_callv (va_runI (As := [.ref (ad 1), .int x1]) (rest := [.ref q, .int v3_3, .ref rw]) ⟨hx, hb, hml, hown, hts⟩ (c_X3_initx l dC dI ad q 1 N hN H.size x1 e_N) (cwI 2 hts (gI iX3_init.2.2) rfl rfl rfl (hts _ iX3_init.2.1) (hts _ (zin__r2 (.methodLink RX6 45 yX3_init) (List.mem_of_getElem? (i := 18) rfl))) (hts _ iX3_init.1) rfl (by decide +kernel) ⟨Nat.le_of_ble_eq_true rfl, Nat.le_of_ble_eq_true rfl⟩) ⟨fun a U g mk q9 => by obtain ⟨q0, q1, qP, qK, qD⟩ := q9; exact ⟨q0, q1, qP, va_K.moved (u := U) (U := U.calling g mk a) (Vm.Alike.refl U.vm) qK, qD⟩, fun U hU hW => ⟨rfl, by rw [hU], by rw [hU]; exact cG_last hP, va_K.moved hW.alike (hK.sub [] rfl), va_D_one⟩⟩ rfl rfl hl.1 rfl (lv_room (Nat.le_of_ble_eq_true rfl)) dX6_row_73 ⟨Nat.le_of_ble_eq_true rfl, (show 0 + 2 + N ≤ 502 by omega)⟩) hS (fun q _ h => hFc q h) hFc (fun u t H1 locs ht hvm _ hB hz1 hk1 hS => ?_)
            obtain ⟨na, cA⟩ := u
            obtain ⟨hP1, hK1, hD1⟩ := hB
            rw [ht] at hP1
            have hK1 := va_K.moved hvm.symm hK1
            have e_c : cJ = cA := ty_eqJ (hK.app hK1) 1 2 rfl rfl
            subst e_c
            obtain ⟨hP, hD⟩ := cG_of hP hD hk1 hFc hP1 hD1
            generalize H1 = H at hP hS ⊢
            refine W.widen (k := 2) (n := 502) (Nat.le_refl 2) (show 0 + 2 + N ≤ 502 by omega) ?_
            have e_v : v3_3 = nI (cn S) := e_v3_3
            have hlt : cn S < 64 := row_lt hI c_24
            refine va_astq (f := cRows S) hx hb hK hP hD hS 1 0 (5 + (cn S + cn S + 0)) 2 rfl rfl cG_end rfl (by rw [e_v]; exact vp_in_nI hlt (by decide)) dX6_row_76 (fun H locs hP hD hS => ?_)
            have hP : va_P (dC, dI) vwCl (cGo ad o rw so ba ma cR cJ S (nI (cn S)) (ccn S) (va_up (cRows S) v3_3.toNatClampNeg (some q)) q 1 na N) H := hP
            have hD : va_D A (cGo ad o rw so ba ma cR cJ S (nI (cn S)) (ccn S) (va_up (cRows S) v3_3.toNatClampNeg (some q)) q 1 na N) := hD
            refine lv_aload_n hx hb dX6_row_77 rfl (lv_at hl 1 rfl) ?_
            refine lv_dup hx hb dX6_row_78 rfl ?_
            refine va_get (D := (dC, dI)) (ci := 4) (v := .int (nI (cn S))) (C := RX6) (T := TX6) (N := 5) hx hb hts zin_X6 hown hK hP 0 rfl rfl 2 (by decide) (hts _ (zin__r1 (.fieldLink RX6 22 "ReckonBench" "rowCount" "I") (List.mem_of_getElem? (i := 16) rfl))) (fun _ h9 => h9) rfl dX6_row_79 ?_
            refine lv_iconst (v := 1) hx hb dX6_row_82 (by decide) ?_
            refine lv_iadd hx hb dX6_row_83 ?_
            refine va_put (D := (dC, dI)) (ci := 4) (v := .int (nI (cn S) + (1 : Int32))) (ty := .int) (C := RX6) (T := TX6) (N := 5) hx hb hts zin_X6 tyX6 tyX6_ok nmX6 hown hK hP hD hS 0 rfl rfl 2 (by decide) (hts _ (zin__r1 (.fieldLink RX6 22 "ReckonBench" "rowCount" "I") (List.mem_of_getElem? (i := 16) rfl))) (fun _ h9 => h9) rfl (by decide +kernel) rfl rfl (Nat.le_of_ble_eq_true rfl) dX6_row_84 (fun H locs hP hD hS => ?_)
            have hP : va_P (dC, dI) vwCl (cGo ad o rw so ba ma cR cJ S (nI (cn S) + (1 : Int32)) (ccn S) (va_up (cRows S) v3_3.toNatClampNeg (some q)) q 1 na N) H := hP
            have hD : va_D A (cGo ad o rw so ba ma cR cJ S (nI (cn S) + (1 : Int32)) (ccn S) (va_up (cRows S) v3_3.toNatClampNeg (some q)) q 1 na N) := hD
            refine lv_aload_n hx hb dX6_row_87 rfl (lv_at hl 1 rfl) ?_
            refine lv_dup hx hb dX6_row_88 rfl ?_
            refine va_get (D := (dC, dI)) (ci := 4) (v := .int (ccn S)) (C := RX6) (T := TX6) (N := 5) hx hb hts zin_X6 hown hK hP 0 rfl rfl 3 (by decide) (hts _ (zin__r1 (.fieldLink RX6 26 "ReckonBench" "numberCount" "I") (List.mem_of_getElem? (i := 17) rfl))) (fun _ h9 => h9) rfl dX6_row_89 ?_
            refine lv_iload_n hx hb dX6_row_92 rfl (lv_at hl 2 rfl) ?_
            refine lv_iadd hx hb dX6_row_93 ?_
            refine va_put (D := (dC, dI)) (ci := 4) (v := .int (ccn S + x1)) (ty := .int) (C := RX6) (T := TX6) (N := 5) hx hb hts zin_X6 tyX6 tyX6_ok nmX6 hown hK hP hD hS 0 rfl rfl 3 (by decide) (hts _ (zin__r1 (.fieldLink RX6 26 "ReckonBench" "numberCount" "I") (List.mem_of_getElem? (i := 17) rfl))) (fun _ h9 => h9) rfl (by decide +kernel) rfl rfl (Nat.le_of_ble_eq_true rfl) dX6_row_94 (fun H locs hP hD hS => ?_)
            have hP : va_P (dC, dI) vwCl (cGo ad o rw so ba ma cR cJ S (nI (cn S) + (1 : Int32)) (ccn S + x1) (va_up (cRows S) v3_3.toNatClampNeg (some q)) q 1 na N) H := hP
            have hD : va_D A (cGo ad o rw so ba ma cR cJ S (nI (cn S) + (1 : Int32)) (ccn S + x1) (va_up (cRows S) v3_3.toNatClampNeg (some q)) q 1 na N) := hD
            obtain ⟨S_9, e_S_9⟩ : ∃ z : CSt, z = (cadd S q na 1 x1) := ⟨_, rfl⟩
            have hPD : va_P (dC, dI) vwCl (cWs ad o rw so ba ma cR cJ S_9) H ∧ va_D A (cWs ad o rw so ba ma cR cJ S_9) := by
              rw [e_v, nI_clamp (by omega), nI_1, e_N] at hP hD
              rw [e_S_9, e_N]
              exact cG_done hN hP hD
            obtain ⟨hP, hD⟩ := hPD
            have hw : cH dC dI ad o rw so ba ma cR cJ S_9 s H := ⟨hP, hK⟩
            have hk := kA_at hkA hS
            have hf : f_X6_row S x1 x2 q na = (f_X6_row_5 (f_X6_answer S_9 v3_3)) := by rw [e_S_9]; exact congrFun (congrFun hf q) na
            refine lv_aload_n hx hb dX6_row_97 rfl (lv_at hl 1 rfl) ?_
            refine lv_iload_n hx hb dX6_row_98 rfl (lv_at hl 0 rfl) ?_
            have hFc := va_freeAll hD hS hA
            refine va_calli (va_runV (As := [.int v3_3]) (rest := []) ⟨hx, hb, hml, hown, hts⟩ (c_X6_answer l dC dI ad o rw so ba ma cR cJ H.size S_9 v3_3) (cwV 1 hts (gV iX6_answer (zin__r3 (.methodLink RX6 48 yX6_answer) (List.mem_of_getElem? (i := 0) rfl))) rfl rfl rfl (by decide +kernel) ⟨Nat.le_of_ble_eq_true rfl, Nat.le_of_ble_eq_true rfl⟩) ⟨fun a U g mk q => ⟨q.1, cB_bl q.2⟩, cW_rv hw, fun U hU hW => ⟨rfl, cB_mv hw hD (kA_in hkA hS hFc) hU hW⟩⟩ rfl rfl hl.1 rfl (lv_room (Nat.le_of_ble_eq_true rfl)) dX6_row_99 ⟨Nat.le_of_ble_eq_true rfl, Nat.le_of_ble_eq_true rfl⟩) hS (fun q _ h => hFc q h) hFc (fun r_99 S_5 t H1 locs ht hvm hw1 hB hz1 hk1 hS => ?_)
            obtain ⟨hP, -, hD1⟩ := hB
            rw [ht] at hP
            have hD := hD1.weaken (fun k q _ h => hFc q.1 h)
            generalize H1 = H at hP hS ⊢
            have hw : cH dC dI ad o rw so ba ma cR cJ S_5 s H := ⟨hP, hK⟩
            have hk := kA_at hkA hS
            have hf : f_X6_row S x1 x2 q na = (r_99, S_5) := hf.trans (congrArg (fun z => (f_X6_row_5 z)) hw1.symm)
            refine W.widen (k := 2) (n := 502) (Nat.le_of_ble_eq_true rfl) (Nat.le_of_ble_eq_true rfl) ?_
            exact W.iret hx hb hr (fun t ht hW => ⟨⟨_, S_5, rfl, ⟨q, na, hf.symm⟩, by rw [ht]; exact hP, va_K.moved hW.alike hK, hD⟩, hS.F ht⟩) hS.2.2 dX6_row_102
        · have hf : f_X6_row S x1 x2 = (f_X6_row_3 S) := hf.trans (if_neg c_36)
          exact K_39 () ls hf (lv_sub hl [0] rfl)
    · have hf : f_X6_row S x1 x2 = (f_X6_row_2 S) := hf.trans (if_neg c_9)
      exact K_12 () ls hf (lv_sub hl [0] rfl)

