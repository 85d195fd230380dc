def f_X7_halves_1 (rec_29 : MSt → Int32 → Int64 → (Int64 × MSt)) (S_9 : MSt) (q2 : Int32) (q3 : Int64) : Int64 × MSt := (rec_29 (mset_pd S_9 (upd (mpd S_9) (q2 + (1 : Int32)).toNatClampNeg (0 : Int32))) (q2 + (1 : Int32)) q3)
def f_X7_halves_2 (w_5 : Int32) (rec_29 : MSt → Int32 → Int64 → (Int64 × MSt)) (S_8 : MSt) (q2 : Int32) (v5_4 : Int32) (q3 : Int64) : Int64 × MSt := if w_5 = 0 then (f_X7_halves_1 rec_29 (mset_pz S_8 (upd (mpz S_8) (q2 + (1 : Int32)).toNatClampNeg v5_4)) q2 q3) else (f_X7_halves_1 rec_29 (mset_pz S_8 (upd (mpz S_8) (q2 + (1 : Int32)).toNatClampNeg ((mpz S_8 q2.toNatClampNeg) - v5_4))) q2 q3)
def f_X7_halves_3 (w_5 : Int32) (rec_29 : MSt → Int32 → Int64 → (Int64 × MSt)) (S_7 : MSt) (q2 : Int32) (v5_4 : Int32) (q3 : Int64) : Int64 × MSt := if w_5 = 0 then (f_X7_halves_2 w_5 rec_29 (mset_pf S_7 (upd (mpf S_7) (q2 + (1 : Int32)).toNatClampNeg (mpf S_7 q2.toNatClampNeg))) q2 v5_4 q3) else (f_X7_halves_2 w_5 rec_29 (mset_pf S_7 (upd (mpf S_7) (q2 + (1 : Int32)).toNatClampNeg ((mpf S_7 q2.toNatClampNeg) + v5_4))) q2 v5_4 q3)
def f_X7_halves_4 (w_5 : Int32) (rec_29 : MSt → Int32 → Int64 → (Int64 × MSt)) (S_6 : MSt) (q2 : Int32) (v5_4 : Int32) (q3 : Int64) : Int64 × MSt := (f_X7_halves_3 w_5 rec_29 (mset_pd S_6 (upd (mpd S_6) q2.toNatClampNeg ((mpd S_6 q2.toNatClampNeg) + (1 : Int32)))) q2 v5_4 q3)
def f_X7_halves_5 (w_5 : Int32) (rec_29 : MSt → Int32 → Int64 → (Int64 × MSt)) (qS : MSt) (q2 : Int32) (q3 : Int64) (v5_4 : Int32) : Int64 × MSt := (f_X7_halves_4 w_5 rec_29 (mset_pu qS (vp_updL (mpu qS) q2.toNatClampNeg q3)) q2 v5_4 q3)
def f_X7_halves_6 (qS : MSt) (q2 : Int32) (rec_29 : MSt → Int32 → Int64 → (Int64 × MSt)) (q3 : Int64) (v5_4 : Int32) : Int64 × MSt := if (mpd qS q2.toNatClampNeg) = (1 : Int32) then (f_X7_halves_5 (1 : Int32) rec_29 qS q2 q3 v5_4) else (f_X7_halves_5 (0 : Int32) rec_29 qS q2 q3 v5_4)
def f_X7_halves_7 (qS : MSt) (q2 : Int32) (rec_29 : MSt → Int32 → Int64 → (Int64 × MSt)) (x1 : Int32) (q3 : Int64) (v5_4 : Int32) : Int64 × MSt := if (mpd qS q2.toNatClampNeg) = (2 : Int32) then (rec_29 qS (q2 + (-1 : Int32)) (f_X7_plus (mk qS x1.toNatClampNeg) (mpu qS q2.toNatClampNeg) q3)) else (f_X7_halves_6 qS q2 rec_29 q3 v5_4)
def f_X7_halves_8 (v5_4 : Int32) (rec_29 : MSt → Int32 → Int64 → (Int64 × MSt)) (qS : MSt) (q2 : Int32) (x1 : Int32) (q3 : Int64) : Int64 × MSt := if v5_4 = 0 then (rec_29 qS (q2 + (-1 : Int32)) (f_X7_at qS x1 (mpf qS q2.toNatClampNeg))) else (f_X7_halves_7 qS q2 rec_29 x1 q3 v5_4)
def f_X7_halves_9 (q2 : Int32) (q3 : Int64) (qS : MSt) (rec_29 : MSt → Int32 → Int64 → (Int64 × MSt)) (x1 : Int32) : Int64 × MSt := if q2 < 0 then (q3, qS) else (f_X7_halves_8 ((mpz qS q2.toNatClampNeg) / (2 : Int32)) rec_29 qS q2 x1 q3)
def f_X7_halves_L29 (x1 : Int32) : Nat → MSt → Int32 → Int64 → Int64 × MSt
  | 0, _, _, _ => default
  | n + 1, qS, q2, q3 => (f_X7_halves_9 q2 q3 qS (f_X7_halves_L29 x1 n) x1)
def f_X7_halves_11 (x1 : Int32) (S_2 : MSt) : Int64 × MSt := (f_X7_halves_L29 x1 2000 (mset_pd S_2 (upd (mpd S_2) (0 : Int32).toNatClampNeg (0 : Int32))) (0 : Int32) (0 : Int64))
def f_X7_halves_12 (x1 : Int32) (S_1 : MSt) : Int64 × MSt := (f_X7_halves_11 x1 (mset_pz S_1 (upd (mpz S_1) (0 : Int32).toNatClampNeg (f_X7_size S_1 x1))))
def f_X7_halves (S : MSt) (x1 : Int32) : Int64 × MSt := (f_X7_halves_12 x1 (mset_pf S (upd (mpf S) (0 : Int32).toNatClampNeg (0 : Int32))))
def zX7_halves : List Cond := .code yX7_halves cX7_halves 7 (some .long) :: zall
theorem iX7_halves : MWv RX7 yX7_halves (.code yX7_halves cX7_halves 7 (some .long)) := ⟨(zin__r25 (.instanceMethod yX7_halves) (List.mem_of_getElem? (i := 13) rfl)), (zin__r25 (.selects RX7 yX7_halves yX7_halves) (List.mem_of_getElem? (i := 14) rfl)), (zin__r1 (.initialized RX7) (List.mem_of_getElem? (i := 5) rfl)), (zin__r25 (.code yX7_halves cX7_halves 7 (some .long)) (List.mem_of_getElem? (i := 15) rfl))⟩
set_option maxHeartbeats 4000000 in
set_option maxRecDepth 100000 in
theorem c_X7_halves (l : Launch) (dC : Nat → ClassId) (dI : Nat → Nat → Nat) (o : Nat) (r : Nat → Nat) (cI cJ : ClassId) (sz : Nat) (S : MSt) (x1 : Int32) (hI : mInv S) (hR : mRow S x1) : Met l yX7_halves zX7_halves ({ frames := 4, cells := 0, slots := 0, locals := 119 }) (va_Pc [.ref o, .int x1] (fun U => mB dC dI o r cI cJ sz S U)) (va_Ql (fun r9 S9 => (r9, S9) = f_X7_halves S x1) (mE dC dI o r cI cJ (va_A (mWs o r cI cJ S) sz)) (va_A (mWs o r cI cJ S) sz)) 0 0 (va_A (mWs o r cI cJ S) sz) := by
  refine Met.ofW (cc := cX7_halves) (maxL := 7) (ret := (some .long)) (by decide) rfl ?_
  intro p e s m args below meth c s₁ B hml hv
  obtain ⟨rfl, hsz, hP, hK, hD0⟩ := hv
  have hx := B.exec
  have hb := B.bytes
  have hr := B.returns
  have hts : ∀ w ∈ zall, w.before _ s = true := fun w h => atoms_spec (ws := zX7_halves) B.pre w (List.mem_cons_of_mem _ h)
  have hown : s.vm.findClass RX7 = some m.cls := findClass_of_methodNamed B.named
  have hlocks := B.notSynchronized
  subst hsz
  have hD := hD0.self (sz := s.heap.size)
  generalize hAe : va_A (mWs o r cI cJ S) s.heap.size = A at hD ⊢
  have hA : ∀ q : Nat, s.heap.size ≤ q → A q := fun q h => by rw [← hAe]; exact Or.inr h
  have hS : va_S A s.heap s.heap [] := va_S.rf
  have hw : mH dC dI o r cI cJ S s s.heap := ⟨hP, hK⟩
  have hm := mA_of hts hw
  have hl := lv_entry ([.ref o, .int x1]) (n := 7) (Nat.le_of_ble_eq_true rfl)
  rw [lg_entry_eq]
  generalize (lg_sl ([.ref o, .int x1]) ++ List.replicate (7 - (lg_sl ([.ref o, .int x1])).length) Slot.unset).toArray = ls at hl ⊢
  have hl : lv_has ls 7 [(0, .ref o), (1, .int x1)] := hl
  have hf : f_X7_halves S x1 = (f_X7_halves_12 x1 (mset_pf S (upd (mpf S) (0 : Int32).toNatClampNeg (0 : Int32)))) := rfl
  have hI00 : mInv S := hI
  have hR00 : mRow S x1 := hR
  refine lv_aload_n hx hb dX7_halves_0 rfl (lv_at hl 0 rfl) ?_
  refine va_get (D := (dC, dI)) (ci := 5) (v := .ref (r 12)) (C := RX7) (T := TX7) (N := 18) hx hb hts zin_X7 hown hK hP 0 rfl rfl 12 (by decide) (hts _ (zin__r3 (.fieldLink RX7 63 "ReckonBenchModel" "partFrom" "[I") (List.mem_of_getElem? (i := 6) rfl))) (fun _ h9 => h9) rfl dX7_halves_1 ?_
  refine lv_iconst (v := 0) hx hb dX7_halves_4 (by decide) ?_
  refine lv_iconst (v := 0) hx hb dX7_halves_5 (by decide) ?_
  refine va_iast (f := mpf S) hx hb hK hP hD hS 13 0 rfl rfl (vp_in_iff.mpr (by decide)) dX7_halves_6 (fun H locs hP hD hS => ?_)
  obtain ⟨S_1, e_S_1⟩ : ∃ z : MSt, z = (mset_pf S (upd (mpf S) (0 : Int32).toNatClampNeg (0 : Int32))) := ⟨_, rfl⟩
  have hP : va_P (dC, dI) vwCl (mWs o r cI cJ S_1) H := by rw [e_S_1]; exact hP
  have hD : va_D A (mWs o r cI cJ S_1) := by rw [e_S_1]; exact hD
  have hw : mH dC dI o r cI cJ S_1 s H := ⟨hP, hK⟩
  have hm := mA_of hts hw
  have hI : mInv S_1 := by rw [e_S_1]; exact hI
  have hR : mRow S_1 x1 := by rw [e_S_1]; exact hR
  have hf : f_X7_halves S x1 = (f_X7_halves_12 x1 S_1) := hf.trans (congrArg (fun z => (f_X7_halves_12 x1 z)) e_S_1.symm)
  refine lv_aload_n hx hb dX7_halves_7 rfl (lv_at hl 0 rfl) ?_
  refine va_get (D := (dC, dI)) (ci := 5) (v := .ref (r 13)) (C := RX7) (T := TX7) (N := 18) hx hb hts zin_X7 hown hK hP 0 rfl rfl 13 (by decide) (hts _ (zin__r3 (.fieldLink RX7 66 "ReckonBenchModel" "partSize" "[I") (List.mem_of_getElem? (i := 7) rfl))) (fun _ h9 => h9) rfl dX7_halves_8 ?_
  refine lv_iconst (v := 0) hx hb dX7_halves_11 (by decide) ?_
  refine lv_aload_n hx hb dX7_halves_12 rfl (lv_at hl 0 rfl) ?_
  refine lv_iload_n hx hb dX7_halves_13 rfl (lv_at hl 1 rfl) ?_
  refine vp_callSi (va_Run.run (va_runV (As := [.int x1]) (rest := [.int (0 : Int32), .ref (r 13)]) ⟨hx, hb, hml, hown, hts⟩ (c_X7_size l dC dI o r cI cJ S_1 x1 (mRow.in1 hI hR) (mRow.in0 hI hR)) (cwV 1 hts (gV iX7_size (zin__r6 (.methodLink RX7 82 yX7_size) (List.mem_of_getElem? (i := 19) rfl))) rfl rfl rfl (by decide +kernel) ⟨Nat.le_of_ble_eq_true rfl, Nat.le_of_ble_eq_true rfl⟩) ⟨fun a U g mk q => ⟨q.1, mW_bl q.2⟩, (mW_rv hw), fun U hU hW => ⟨rfl, mW_mv hw hU hW⟩⟩ rfl rfl hl.1 rfl (lv_room (Nat.le_of_ble_eq_true rfl)) dX7_halves_14 ⟨Nat.zero_le _, Nat.zero_le _⟩)) (fun r_14 hr_14 => ?_)
  subst hr_14
  refine va_iast (f := mpz S_1) hx hb hK hP hD hS 14 0 rfl rfl (vp_in_iff.mpr (by decide)) dX7_halves_17 (fun H locs hP hD hS => ?_)
  obtain ⟨S_2, e_S_2⟩ : ∃ z : MSt, z = (mset_pz S_1 (upd (mpz S_1) (0 : Int32).toNatClampNeg (f_X7_size S_1 x1))) := ⟨_, rfl⟩
  have hP : va_P (dC, dI) vwCl (mWs o r cI cJ S_2) H := by rw [e_S_2]; exact hP
  have hD : va_D A (mWs o r cI cJ S_2) := by rw [e_S_2]; exact hD
  have hw : mH dC dI o r cI cJ S_2 s H := ⟨hP, hK⟩
  have hm := mA_of hts hw
  have hI : mInv S_2 := by rw [e_S_2]; exact hI
  have hR : mRow S_2 x1 := by rw [e_S_2]; exact hR
  have hf : f_X7_halves S x1 = (f_X7_halves_11 x1 S_2) := hf.trans (congrArg (fun z => (f_X7_halves_11 x1 z)) e_S_2.symm)
  refine lv_aload_n hx hb dX7_halves_18 rfl (lv_at hl 0 rfl) ?_
  refine va_get (D := (dC, dI)) (ci := 5) (v := .ref (r 14)) (C := RX7) (T := TX7) (N := 18) hx hb hts zin_X7 hown hK hP 0 rfl rfl 14 (by decide) (hts _ (zin__r3 (.fieldLink RX7 69 "ReckonBenchModel" "partDone" "[I") (List.mem_of_getElem? (i := 8) rfl))) (fun _ h9 => h9) rfl dX7_halves_19 ?_
  refine lv_iconst (v := 0) hx hb dX7_halves_22 (by decide) ?_
  refine lv_iconst (v := 0) hx hb dX7_halves_23 (by decide) ?_
  refine va_iast (f := mpd S_2) hx hb hK hP hD hS 15 0 rfl rfl (vp_in_iff.mpr (by decide)) dX7_halves_24 (fun H locs hP hD hS => ?_)
  obtain ⟨S_3, e_S_3⟩ : ∃ z : MSt, z = (mset_pd S_2 (upd (mpd S_2) (0 : Int32).toNatClampNeg (0 : Int32))) := ⟨_, rfl⟩
  have hP : va_P (dC, dI) vwCl (mWs o r cI cJ S_3) H := by rw [e_S_3]; exact hP
  have hD : va_D A (mWs o r cI cJ S_3) := by rw [e_S_3]; exact hD
  have hw : mH dC dI o r cI cJ S_3 s H := ⟨hP, hK⟩
  have hm := mA_of hts hw
  have hI : mInv S_3 := by rw [e_S_3]; exact hI
  have hR : mRow S_3 x1 := by rw [e_S_3]; exact hR
  have hf : f_X7_halves S x1 = (f_X7_halves_L29 x1 2000 S_3 (0 : Int32) (0 : Int64)) := hf.trans (congrArg (fun z => (f_X7_halves_L29 x1 2000 z (0 : Int32) (0 : Int64))) e_S_3.symm)
  refine lv_iconst (v := 0) hx hb dX7_halves_25 (by decide) ?_
  refine lv_istore_n (lv' := [(2, .int (0 : Int32)), (0, .ref o), (1, .int x1)]) hx hb dX7_halves_26 rfl hl (by decide) rfl (fun ls hl => ?_)
  refine lv_lconst (v := 0) hx hb dX7_halves_27 (by decide) ?_
  refine lv_lstore_n (lv' := [(3, .long (0 : Int64)), (2, .int (0 : Int32)), (0, .ref o), (1, .int x1)]) hx hb dX7_halves_28 rfl hl (by decide) rfl (fun ls hl => ?_)
  refine W_loopH (α := MSt × Int32 × Int64) (pcJ := 29) (nL := 7) (fun n v H locs => f_X7_halves S x1 = f_X7_halves_L29 x1 n v.1 v.2.1 v.2.2 ∧ (hvI (mk v.1 x1.toNatClampNeg) (f_X7_size v.1 x1).toNatClampNeg v.1 v.2.1 v.2.2 n ∧ mInv v.1 ∧ mRow v.1 x1) ∧ mH dC dI o r cI cJ v.1 s H ∧ va_D A (mWs o r cI cJ v.1) ∧ va_S A s.heap H locs) (fun v => []) (fun v => [(0, .ref o), (1, .int x1), (2, .int v.2.1), (3, .long v.2.2)]) (fun v H locs hC => ?_) (fun n_29 ih_29 v H locs ls hC hl => ?_) 2000 (S_3, (0 : Int32), (0 : Int64)) _ _ ls ⟨hf, ⟨by rw [e_S_3, e_S_2, e_S_1]; exact hvI.init (S := S) hI00 hR00 (mRow.k hI00 hR00) rfl rfl rfl, hI, hR⟩, hw, hD, hS⟩ (lv_sub hl [2, 3, 1, 0] rfl)
  · obtain ⟨qS, q2, q3⟩ := v
    have hJ : (hvI (mk qS x1.toNatClampNeg) (f_X7_size qS x1).toNatClampNeg qS q2 q3 (0 : Nat) ∧ mInv qS ∧ mRow qS x1) := hC.2.1
    exact hvI.zero hJ.1
  · obtain ⟨qS, q2, q3⟩ := v
    obtain ⟨hf, hJ, hw, hD, hS⟩ : (f_X7_halves S x1 = f_X7_halves_L29 x1 (n_29 + 1) qS q2 q3) ∧ (hvI (mk qS x1.toNatClampNeg) (f_X7_size qS x1).toNatClampNeg qS q2 q3 (Nat.succ n_29) ∧ mInv qS ∧ mRow qS x1) ∧ mH dC dI o r cI cJ qS s H ∧ va_D A (mWs o r cI cJ qS) ∧ va_S A s.heap H locs := hC
    obtain ⟨hP, -⟩ := id hw
    have hm := mA_of hts hw
    obtain ⟨rec_29, hrec_29⟩ : ∃ z, z = f_X7_halves_L29 x1 n_29 := ⟨_, rfl⟩
    have hf : f_X7_halves S x1 = (f_X7_halves_9 q2 q3 qS rec_29 x1) := by rw [hrec_29]; exact hf
    have hl : lv_has ls 7 [(0, .ref o), (1, .int x1), (2, .int q2), (3, .long q3)] := hl
    have hI : mInv qS := hJ.2.1
    have hR : mRow qS x1 := hJ.2.2
    refine lv_iload_n hx hb dX7_halves_29 rfl (lv_at hl 2 rfl) ?_
    refine lv_if_lt (tgt := 207) hx hb dX7_halves_30 (by decide) (fun c_30 => ?_) (fun c_30 => ?_)
    · have hf : f_X7_halves S x1 = (q3, qS) := hf.trans (if_pos c_30)
      refine lv_lload_n hx hb dX7_halves_207 rfl (lv_at hl 3 rfl) ?_
      exact W.lret hx hb hr (fun t ht hW => ⟨⟨_, qS, rfl, hf.symm, by rw [ht]; exact hP, va_K.moved hW.alike hK, hD⟩, hS.F ht⟩) hS.2.2 dX7_halves_208
    · have hf : f_X7_halves S x1 = (f_X7_halves_8 ((mpz qS q2.toNatClampNeg) / (2 : Int32)) rec_29 qS q2 x1 q3) := hf.trans (if_neg c_30)
      have hin : vp_in q2 12 := hJ.1.in c_30
      refine lv_aload_n hx hb dX7_halves_33 rfl (lv_at hl 0 rfl) ?_
      refine va_get (D := (dC, dI)) (ci := 5) (v := .ref (r 13)) (C := RX7) (T := TX7) (N := 18) hx hb hts zin_X7 hown hK hP 0 rfl rfl 13 (by decide) (hts _ (zin__r3 (.fieldLink RX7 66 "ReckonBenchModel" "partSize" "[I") (List.mem_of_getElem? (i := 7) rfl))) (fun _ h9 => h9) rfl dX7_halves_34 ?_
      refine lv_iload_n hx hb dX7_halves_37 rfl (lv_at hl 2 rfl) ?_
      refine va_iald (f := mpz qS) hx hb hK hP 14 0 rfl rfl hin dX7_halves_38 ?_
      refine lv_iconst (v := 2) hx hb dX7_halves_39 (by decide) ?_
      refine lv_idiv hx hb dX7_halves_40 (by decide) ?_
      refine lv_topi (fun v5_4 e_v5_4 => ?_)
      have hf : f_X7_halves S x1 = (f_X7_halves_8 v5_4 rec_29 qS q2 x1 q3) := hf.trans (congrArg (fun z => (f_X7_halves_8 z rec_29 qS q2 x1 q3)) e_v5_4.symm)
      refine lv_istore (lv' := [(5, .int v5_4), (0, .ref o), (1, .int x1), (2, .int q2), (3, .long q3)]) hx hb dX7_halves_41 hl (by decide) rfl (fun ls hl => ?_)
      refine lv_iload hx hb dX7_halves_43 (lv_at hl 0 rfl) ?_
      refine lv_if_ne (tgt := 66) hx hb dX7_halves_45 (by decide) (fun c_45 => ?_) (fun c_45 => ?_)
      · have hf : f_X7_halves S x1 = (f_X7_halves_7 qS q2 rec_29 x1 q3 v5_4) := hf.trans (if_neg c_45)
        refine lv_aload_n hx hb dX7_halves_66 rfl (lv_at hl 1 rfl) ?_
        refine va_get (D := (dC, dI)) (ci := 5) (v := .ref (r 14)) (C := RX7) (T := TX7) (N := 18) hx hb hts zin_X7 hown hK hP 0 rfl rfl 14 (by decide) (hts _ (zin__r3 (.fieldLink RX7 69 "ReckonBenchModel" "partDone" "[I") (List.mem_of_getElem? (i := 8) rfl))) (fun _ h9 => h9) rfl dX7_halves_67 ?_
        refine lv_iload_n hx hb dX7_halves_70 rfl (lv_at hl 3 rfl) ?_
        refine va_iald (f := mpd qS) hx hb hK hP 15 0 rfl rfl hin dX7_halves_71 ?_
        refine lv_iconst (v := 2) hx hb dX7_halves_72 (by decide) ?_
        refine lv_icmp_ne (tgt := 100) hx hb dX7_halves_73 (by decide) (fun c_73 => ?_) (fun c_73 => ?_)
        · have hf : f_X7_halves S x1 = (f_X7_halves_6 qS q2 rec_29 q3 v5_4) := hf.trans (if_neg c_73)
          refine lv_aload_n hx hb dX7_halves_100 rfl (lv_at hl 1 rfl) ?_
          refine va_get (D := (dC, dI)) (ci := 5) (v := .ref (r 14)) (C := RX7) (T := TX7) (N := 18) hx hb hts zin_X7 hown hK hP 0 rfl rfl 14 (by decide) (hts _ (zin__r3 (.fieldLink RX7 69 "ReckonBenchModel" "partDone" "[I") (List.mem_of_getElem? (i := 8) rfl))) (fun _ h9 => h9) rfl dX7_halves_101 ?_
          refine lv_iload_n hx hb dX7_halves_104 rfl (lv_at hl 3 rfl) ?_
          refine va_iald (f := mpd qS) hx hb hK hP 15 0 rfl rfl hin dX7_halves_105 ?_
          refine lv_iconst (v := 1) hx hb dX7_halves_106 (by decide) ?_
          refine W_cut (α := Int32) (pcJ := 115) (nL := 7) (fun v => f_X7_halves S x1 = (f_X7_halves_5 v rec_29 qS q2 q3 v5_4) ∧ ((v = 1 ∧ mpd qS q2.toNatClampNeg = 1) ∨ (v = 0 ∧ ¬ mpd qS q2.toNatClampNeg = 1))) (fun v => [.int v]) (fun v => [(0, .ref o), (1, .int x1), (2, .int q2), (3, .long q3), (5, .int v5_4)]) (fun w_5 ls hf hl => ?_) (fun K_115 => ?_)
          · obtain ⟨hf, hI_115⟩ : f_X7_halves S x1 = (f_X7_halves_5 w_5 rec_29 qS q2 q3 v5_4) ∧ ((w_5 = 1 ∧ mpd qS q2.toNatClampNeg = 1) ∨ (w_5 = 0 ∧ ¬ mpd qS q2.toNatClampNeg = 1)) := hf
            have hf : f_X7_halves S x1 = (f_X7_halves_4 w_5 rec_29 (mset_pu qS (vp_updL (mpu qS) q2.toNatClampNeg q3)) q2 v5_4 q3) := hf
            have hl : lv_has ls 7 [(0, .ref o), (1, .int x1), (2, .int q2), (3, .long q3), (5, .int v5_4)] := hl
            refine lv_istore (lv' := [(6, .int w_5), (0, .ref o), (1, .int x1), (2, .int q2), (3, .long q3), (5, .int v5_4)]) hx hb dX7_halves_115 hl (by decide) rfl (fun ls hl => ?_)
            refine lv_aload_n hx hb dX7_halves_117 rfl (lv_at hl 1 rfl) ?_
            refine va_get (D := (dC, dI)) (ci := 5) (v := .ref (r 15)) (C := RX7) (T := TX7) (N := 18) hx hb hts zin_X7 hown hK hP 0 rfl rfl 15 (by decide) (hts _ (zin__r3 (.fieldLink RX7 72 "ReckonBenchModel" "partSum" "[J") (List.mem_of_getElem? (i := 9) rfl))) (fun _ h9 => h9) rfl dX7_halves_118 ?_
            refine lv_iload_n hx hb dX7_halves_121 rfl (lv_at hl 3 rfl) ?_
            refine lv_lload_n hx hb dX7_halves_122 rfl (lv_at hl 4 rfl) ?_
            refine va_last (f := mpu qS) hx hb hK hP hD hS 16 1 rfl rfl hin dX7_halves_123 (fun H locs hP hD hS => ?_)
            obtain ⟨S_6, e_S_6⟩ : ∃ z : MSt, z = (mset_pu qS (vp_updL (mpu qS) q2.toNatClampNeg q3)) := ⟨_, rfl⟩
            have hP : va_P (dC, dI) vwCl (mWs o r cI cJ S_6) H := by rw [e_S_6]; exact hP
            have hD : va_D A (mWs o r cI cJ S_6) := by rw [e_S_6]; exact hD
            have hw : mH dC dI o r cI cJ S_6 s H := ⟨hP, hK⟩
            have hm := mA_of hts hw
            have hI : mInv S_6 := by rw [e_S_6]; exact hI
            have hR : mRow S_6 x1 := by rw [e_S_6]; exact hR
            have hf : f_X7_halves S x1 = (f_X7_halves_4 w_5 rec_29 S_6 q2 v5_4 q3) := hf.trans (congrArg (fun z => (f_X7_halves_4 w_5 rec_29 z q2 v5_4 q3)) e_S_6.symm)
            refine lv_aload_n hx hb dX7_halves_124 rfl (lv_at hl 1 rfl) ?_
            refine va_get (D := (dC, dI)) (ci := 5) (v := .ref (r 14)) (C := RX7) (T := TX7) (N := 18) hx hb hts zin_X7 hown hK hP 0 rfl rfl 14 (by decide) (hts _ (zin__r3 (.fieldLink RX7 69 "ReckonBenchModel" "partDone" "[I") (List.mem_of_getElem? (i := 8) rfl))) (fun _ h9 => h9) rfl dX7_halves_125 ?_
            refine lv_iload_n hx hb dX7_halves_128 rfl (lv_at hl 3 rfl) ?_
            refine lv_dup2_11 hx hb dX7_halves_129 rfl rfl ?_
            refine va_iald (f := mpd S_6) hx hb hK hP 15 0 rfl rfl hin dX7_halves_130 ?_
            refine lv_iconst (v := 1) hx hb dX7_halves_131 (by decide) ?_
            refine lv_iadd hx hb dX7_halves_132 ?_
            refine va_iast (f := mpd S_6) hx hb hK hP hD hS 15 0 rfl rfl hin dX7_halves_133 (fun H locs hP hD hS => ?_)
            obtain ⟨S_7, e_S_7⟩ : ∃ z : MSt, z = (mset_pd S_6 (upd (mpd S_6) q2.toNatClampNeg ((mpd S_6 q2.toNatClampNeg) + (1 : Int32)))) := ⟨_, rfl⟩
            have hP : va_P (dC, dI) vwCl (mWs o r cI cJ S_7) H := by rw [e_S_7]; exact hP
            have hD : va_D A (mWs o r cI cJ S_7) := by rw [e_S_7]; exact hD
            have hw : mH dC dI o r cI cJ S_7 s H := ⟨hP, hK⟩
            have hm := mA_of hts hw
            have hI : mInv S_7 := by rw [e_S_7]; exact hI
            have hR : mRow S_7 x1 := by rw [e_S_7]; exact hR
            have hf : f_X7_halves S x1 = (f_X7_halves_3 w_5 rec_29 S_7 q2 v5_4 q3) := hf.trans (congrArg (fun z => (f_X7_halves_3 w_5 rec_29 z q2 v5_4 q3)) e_S_7.symm)
            have hin1 : vp_in (q2 + (1 : Int32)) 12 := hJ.1.in1 c_30 (show ¬ mpz qS q2.toNatClampNeg / (2 : Int32) = 0 by rw [← e_v5_4]; exact c_45)
            refine lv_aload_n hx hb dX7_halves_134 rfl (lv_at hl 1 rfl) ?_
            refine va_get (D := (dC, dI)) (ci := 5) (v := .ref (r 12)) (C := RX7) (T := TX7) (N := 18) hx hb hts zin_X7 hown hK hP 0 rfl rfl 12 (by decide) (hts _ (zin__r3 (.fieldLink RX7 63 "ReckonBenchModel" "partFrom" "[I") (List.mem_of_getElem? (i := 6) rfl))) (fun _ h9 => h9) rfl dX7_halves_135 ?_
            refine lv_iload_n hx hb dX7_halves_138 rfl (lv_at hl 3 rfl) ?_
            refine lv_iconst (v := 1) hx hb dX7_halves_139 (by decide) ?_
            refine lv_iadd hx hb dX7_halves_140 ?_
            refine lv_iload hx hb dX7_halves_141 (lv_at hl 0 rfl) ?_
            refine lv_if_eq (tgt := 158) hx hb dX7_halves_143 (by decide) (fun c_143 => ?_) (fun c_143 => ?_)
            · have hf : f_X7_halves S x1 = (f_X7_halves_2 w_5 rec_29 (mset_pf S_7 (upd (mpf S_7) (q2 + (1 : Int32)).toNatClampNeg (mpf S_7 q2.toNatClampNeg))) q2 v5_4 q3) := hf.trans (if_pos c_143)
              refine lv_aload_n hx hb dX7_halves_158 rfl (lv_at hl 1 rfl) ?_
              refine va_get (D := (dC, dI)) (ci := 5) (v := .ref (r 12)) (C := RX7) (T := TX7) (N := 18) hx hb hts zin_X7 hown hK hP 0 rfl rfl 12 (by decide) (hts _ (zin__r3 (.fieldLink RX7 63 "ReckonBenchModel" "partFrom" "[I") (List.mem_of_getElem? (i := 6) rfl))) (fun _ h9 => h9) rfl dX7_halves_159 ?_
              refine lv_iload_n hx hb dX7_halves_162 rfl (lv_at hl 3 rfl) ?_
              refine va_iald (f := mpf S_7) hx hb hK hP 13 0 rfl rfl hin dX7_halves_163 ?_
              refine va_iast (f := mpf S_7) hx hb hK hP hD hS 13 0 rfl rfl hin1 dX7_halves_164 (fun H locs hP hD hS => ?_)
              obtain ⟨S_8, e_S_8⟩ : ∃ z : MSt, z = (mset_pf S_7 (upd (mpf S_7) (q2 + (1 : Int32)).toNatClampNeg (mpf S_7 q2.toNatClampNeg))) := ⟨_, rfl⟩
              have hP : va_P (dC, dI) vwCl (mWs o r cI cJ S_8) H := by rw [e_S_8]; exact hP
              have hD : va_D A (mWs o r cI cJ S_8) := by rw [e_S_8]; exact hD
              have hw : mH dC dI o r cI cJ S_8 s H := ⟨hP, hK⟩
              have hm := mA_of hts hw
              have hI : mInv S_8 := by rw [e_S_8]; exact hI
              have hR : mRow S_8 x1 := by rw [e_S_8]; exact hR
              have hf : f_X7_halves S x1 = (f_X7_halves_2 w_5 rec_29 S_8 q2 v5_4 q3) := hf.trans (congrArg (fun z => (f_X7_halves_2 w_5 rec_29 z q2 v5_4 q3)) e_S_8.symm)
              refine lv_aload_n hx hb dX7_halves_165 rfl (lv_at hl 1 rfl) ?_
              refine va_get (D := (dC, dI)) (ci := 5) (v := .ref (r 13)) (C := RX7) (T := TX7) (N := 18) hx hb hts zin_X7 hown hK hP 0 rfl rfl 13 (by decide) (hts _ (zin__r3 (.fieldLink RX7 66 "ReckonBenchModel" "partSize" "[I") (List.mem_of_getElem? (i := 7) rfl))) (fun _ h9 => h9) rfl dX7_halves_166 ?_
              refine lv_iload_n hx hb dX7_halves_169 rfl (lv_at hl 3 rfl) ?_
              refine lv_iconst (v := 1) hx hb dX7_halves_170 (by decide) ?_
              refine lv_iadd hx hb dX7_halves_171 ?_
              refine lv_iload hx hb dX7_halves_172 (lv_at hl 0 rfl) ?_
              refine lv_if_eq (tgt := 189) hx hb dX7_halves_174 (by decide) (fun c_174 => ?_) (fun c_174 => ?_)
              · have hf : f_X7_halves S x1 = (f_X7_halves_1 rec_29 (mset_pz S_8 (upd (mpz S_8) (q2 + (1 : Int32)).toNatClampNeg v5_4)) q2 q3) := hf.trans (if_pos c_174)
                refine lv_iload hx hb dX7_halves_189 (lv_at hl 5 rfl) ?_
                refine va_iast (f := mpz S_8) hx hb hK hP hD hS 14 0 rfl rfl hin1 dX7_halves_191 (fun H locs hP hD hS => ?_)
                obtain ⟨S_9, e_S_9⟩ : ∃ z : MSt, z = (mset_pz S_8 (upd (mpz S_8) (q2 + (1 : Int32)).toNatClampNeg v5_4)) := ⟨_, rfl⟩
                have hP : va_P (dC, dI) vwCl (mWs o r cI cJ S_9) H := by rw [e_S_9]; exact hP
                have hD : va_D A (mWs o r cI cJ S_9) := by rw [e_S_9]; exact hD
                have hw : mH dC dI o r cI cJ S_9 s H := ⟨hP, hK⟩
                have hm := mA_of hts hw
                have hI : mInv S_9 := by rw [e_S_9]; exact hI
                have hR : mRow S_9 x1 := by rw [e_S_9]; exact hR
                have hf : f_X7_halves S x1 = (f_X7_halves_1 rec_29 S_9 q2 q3) := hf.trans (congrArg (fun z => (f_X7_halves_1 rec_29 z q2 q3)) e_S_9.symm)
                refine lv_aload_n hx hb dX7_halves_192 rfl (lv_at hl 1 rfl) ?_
                refine va_get (D := (dC, dI)) (ci := 5) (v := .ref (r 14)) (C := RX7) (T := TX7) (N := 18) hx hb hts zin_X7 hown hK hP 0 rfl rfl 14 (by decide) (hts _ (zin__r3 (.fieldLink RX7 69 "ReckonBenchModel" "partDone" "[I") (List.mem_of_getElem? (i := 8) rfl))) (fun _ h9 => h9) rfl dX7_halves_193 ?_
                refine lv_iload_n hx hb dX7_halves_196 rfl (lv_at hl 3 rfl) ?_
                refine lv_iconst (v := 1) hx hb dX7_halves_197 (by decide) ?_
                refine lv_iadd hx hb dX7_halves_198 ?_
                refine lv_iconst (v := 0) hx hb dX7_halves_199 (by decide) ?_
                refine va_iast (f := mpd S_9) hx hb hK hP hD hS 15 0 rfl rfl hin1 dX7_halves_200 (fun H locs hP hD hS => ?_)
                obtain ⟨S_10, e_S_10⟩ : ∃ z : MSt, z = (mset_pd S_9 (upd (mpd S_9) (q2 + (1 : Int32)).toNatClampNeg (0 : Int32))) := ⟨_, rfl⟩
                have hP : va_P (dC, dI) vwCl (mWs o r cI cJ S_10) H := by rw [e_S_10]; exact hP
                have hD : va_D A (mWs o r cI cJ S_10) := by rw [e_S_10]; exact hD
                have hw : mH dC dI o r cI cJ S_10 s H := ⟨hP, hK⟩
                have hm := mA_of hts hw
                have hI : mInv S_10 := by rw [e_S_10]; exact hI
                have hR : mRow S_10 x1 := by rw [e_S_10]; exact hR
                have hf : f_X7_halves S x1 = (rec_29 S_10 (q2 + (1 : Int32)) q3) := hf.trans (congrArg (fun z => (rec_29 z (q2 + (1 : Int32)) q3)) e_S_10.symm)
                have hP9 : hvI (mk S_10 x1.toNatClampNeg) (f_X7_size S_10 x1).toNatClampNeg S_10 (q2 + (1 : Int32)) q3 n_29 := (by rw [e_S_10, e_S_9, e_S_8, e_S_7, e_S_6]; exact hvI.push hJ.1 c_30 (show ¬ mpz qS q2.toNatClampNeg / (2 : Int32) = 0 by rw [← e_v5_4]; exact c_45) c_73 (by exact hI_115.elim (fun h9 => by first | exact absurd h9.1 (by rw [c_143]; decide) | exact absurd h9.1 (by rw [c_174]; decide) | exact (Or.inl ⟨h9.2, congrArg (fun z => mpf qS q2.toNatClampNeg + z) e_v5_4, congrArg (fun z => mpz qS q2.toNatClampNeg - z) e_v5_4⟩)) (fun h9 => by first | exact absurd h9.1 c_143 | exact absurd h9.1 c_174 | exact (Or.inr ⟨h9.2, rfl, e_v5_4⟩))) rfl rfl rfl rfl)
                obtain ⟨v2_11, e_v2_11⟩ : ∃ y : Int32, y = (q2 + (1 : Int32)) := ⟨_, rfl⟩
                refine lv_iinc (v := v2_11) (lv' := [(2, .int v2_11), (6, .int w_5), (0, .ref o), (1, .int x1), (3, .long q3), (5, .int v5_4)]) hx hb dX7_halves_201 hl (k := 3) rfl (by rw [e_v2_11]; rfl) (by decide) rfl (fun ls hl => ?_)
                have hf : f_X7_halves S x1 = (rec_29 S_10 v2_11 q3) := hf.trans (congrArg (fun z => (rec_29 S_10 z q3)) e_v2_11.symm)
                refine lv_goto (tgt := 29) hx hb dX7_halves_204 (by decide) ?_
                exact ih_29 (S_10, v2_11, q3) _ _ ls ⟨hf.trans (congrFun (congrFun (congrFun hrec_29 _) _) _), ⟨by rw [e_v2_11]; exact hP9, hI, hR⟩, hw, hD, hS⟩ (lv_sub hl [2, 3, 0, 4] rfl)
              · have hf : f_X7_halves S x1 = (f_X7_halves_1 rec_29 (mset_pz S_8 (upd (mpz S_8) (q2 + (1 : Int32)).toNatClampNeg ((mpz S_8 q2.toNatClampNeg) - v5_4))) q2 q3) := hf.trans (if_neg c_174)
                refine lv_aload_n hx hb dX7_halves_177 rfl (lv_at hl 1 rfl) ?_
                refine va_get (D := (dC, dI)) (ci := 5) (v := .ref (r 13)) (C := RX7) (T := TX7) (N := 18) hx hb hts zin_X7 hown hK hP 0 rfl rfl 13 (by decide) (hts _ (zin__r3 (.fieldLink RX7 66 "ReckonBenchModel" "partSize" "[I") (List.mem_of_getElem? (i := 7) rfl))) (fun _ h9 => h9) rfl dX7_halves_178 ?_
                refine lv_iload_n hx hb dX7_halves_181 rfl (lv_at hl 3 rfl) ?_
                refine va_iald (f := mpz S_8) hx hb hK hP 14 0 rfl rfl hin dX7_halves_182 ?_
                refine lv_iload hx hb dX7_halves_183 (lv_at hl 5 rfl) ?_
                refine lv_isub hx hb dX7_halves_185 ?_
                refine lv_goto (tgt := 191) hx hb dX7_halves_186 (by decide) ?_
                refine va_iast (f := mpz S_8) hx hb hK hP hD hS 14 0 rfl rfl hin1 dX7_halves_191 (fun H locs hP hD hS => ?_)
                obtain ⟨S_12, e_S_12⟩ : ∃ z : MSt, z = (mset_pz S_8 (upd (mpz S_8) (q2 + (1 : Int32)).toNatClampNeg ((mpz S_8 q2.toNatClampNeg) - v5_4))) := ⟨_, rfl⟩
                have hP : va_P (dC, dI) vwCl (mWs o r cI cJ S_12) H := by rw [e_S_12]; exact hP
                have hD : va_D A (mWs o r cI cJ S_12) := by rw [e_S_12]; exact hD
                have hw : mH dC dI o r cI cJ S_12 s H := ⟨hP, hK⟩
                have hm := mA_of hts hw
                have hI : mInv S_12 := by rw [e_S_12]; exact hI
                have hR : mRow S_12 x1 := by rw [e_S_12]; exact hR
                have hf : f_X7_halves S x1 = (f_X7_halves_1 rec_29 S_12 q2 q3) := hf.trans (congrArg (fun z => (f_X7_halves_1 rec_29 z q2 q3)) e_S_12.symm)
                refine lv_aload_n hx hb dX7_halves_192 rfl (lv_at hl 1 rfl) ?_
                refine va_get (D := (dC, dI)) (ci := 5) (v := .ref (r 14)) (C := RX7) (T := TX7) (N := 18) hx hb hts zin_X7 hown hK hP 0 rfl rfl 14 (by decide) (hts _ (zin__r3 (.fieldLink RX7 69 "ReckonBenchModel" "partDone" "[I") (List.mem_of_getElem? (i := 8) rfl))) (fun _ h9 => h9) rfl dX7_halves_193 ?_
                refine lv_iload_n hx hb dX7_halves_196 rfl (lv_at hl 3 rfl) ?_
                refine lv_iconst (v := 1) hx hb dX7_halves_197 (by decide) ?_
                refine lv_iadd hx hb dX7_halves_198 ?_
                refine lv_iconst (v := 0) hx hb dX7_halves_199 (by decide) ?_
                refine va_iast (f := mpd S_12) hx hb hK hP hD hS 15 0 rfl rfl hin1 dX7_halves_200 (fun H locs hP hD hS => ?_)
                obtain ⟨S_13, e_S_13⟩ : ∃ z : MSt, z = (mset_pd S_12 (upd (mpd S_12) (q2 + (1 : Int32)).toNatClampNeg (0 : Int32))) := ⟨_, rfl⟩
                have hP : va_P (dC, dI) vwCl (mWs o r cI cJ S_13) H := by rw [e_S_13]; exact hP
                have hD : va_D A (mWs o r cI cJ S_13) := by rw [e_S_13]; exact hD
                have hw : mH dC dI o r cI cJ S_13 s H := ⟨hP, hK⟩
                have hm := mA_of hts hw
                have hI : mInv S_13 := by rw [e_S_13]; exact hI
                have hR : mRow S_13 x1 := by rw [e_S_13]; exact hR
                have hf : f_X7_halves S x1 = (rec_29 S_13 (q2 + (1 : Int32)) q3) := hf.trans (congrArg (fun z => (rec_29 z (q2 + (1 : Int32)) q3)) e_S_13.symm)
                have hP9 : hvI (mk S_13 x1.toNatClampNeg) (f_X7_size S_13 x1).toNatClampNeg S_13 (q2 + (1 : Int32)) q3 n_29 := (by rw [e_S_13, e_S_12, e_S_8, e_S_7, e_S_6]; exact hvI.push hJ.1 c_30 (show ¬ mpz qS q2.toNatClampNeg / (2 : Int32) = 0 by rw [← e_v5_4]; exact c_45) c_73 (by exact hI_115.elim (fun h9 => by first | exact absurd h9.1 (by rw [c_143]; decide) | exact absurd h9.1 (by rw [c_174]; decide) | exact (Or.inl ⟨h9.2, congrArg (fun z => mpf qS q2.toNatClampNeg + z) e_v5_4, congrArg (fun z => mpz qS q2.toNatClampNeg - z) e_v5_4⟩)) (fun h9 => by first | exact absurd h9.1 c_143 | exact absurd h9.1 c_174 | exact (Or.inr ⟨h9.2, rfl, e_v5_4⟩))) rfl rfl rfl rfl)
                obtain ⟨v2_14, e_v2_14⟩ : ∃ y : Int32, y = (q2 + (1 : Int32)) := ⟨_, rfl⟩
                refine lv_iinc (v := v2_14) (lv' := [(2, .int v2_14), (6, .int w_5), (0, .ref o), (1, .int x1), (3, .long q3), (5, .int v5_4)]) hx hb dX7_halves_201 hl (k := 3) rfl (by rw [e_v2_14]; rfl) (by decide) rfl (fun ls hl => ?_)
                have hf : f_X7_halves S x1 = (rec_29 S_13 v2_14 q3) := hf.trans (congrArg (fun z => (rec_29 S_13 z q3)) e_v2_14.symm)
                refine lv_goto (tgt := 29) hx hb dX7_halves_204 (by decide) ?_
                exact ih_29 (S_13, v2_14, q3) _ _ ls ⟨hf.trans (congrFun (congrFun (congrFun hrec_29 _) _) _), ⟨by rw [e_v2_14]; exact hP9, hI, hR⟩, hw, hD, hS⟩ (lv_sub hl [2, 3, 0, 4] rfl)
            · have hf : f_X7_halves S x1 = (f_X7_halves_2 w_5 rec_29 (mset_pf S_7 (upd (mpf S_7) (q2 + (1 : Int32)).toNatClampNeg ((mpf S_7 q2.toNatClampNeg) + v5_4))) q2 v5_4 q3) := hf.trans (if_neg c_143)
              refine lv_aload_n hx hb dX7_halves_146 rfl (lv_at hl 1 rfl) ?_
              refine va_get (D := (dC, dI)) (ci := 5) (v := .ref (r 12)) (C := RX7) (T := TX7) (N := 18) hx hb hts zin_X7 hown hK hP 0 rfl rfl 12 (by decide) (hts _ (zin__r3 (.fieldLink RX7 63 "ReckonBenchModel" "partFrom" "[I") (List.mem_of_getElem? (i := 6) rfl))) (fun _ h9 => h9) rfl dX7_halves_147 ?_
              refine lv_iload_n hx hb dX7_halves_150 rfl (lv_at hl 3 rfl) ?_
              refine va_iald (f := mpf S_7) hx hb hK hP 13 0 rfl rfl hin dX7_halves_151 ?_
              refine lv_iload hx hb dX7_halves_152 (lv_at hl 5 rfl) ?_
              refine lv_iadd hx hb dX7_halves_154 ?_
              refine lv_goto (tgt := 164) hx hb dX7_halves_155 (by decide) ?_
              refine va_iast (f := mpf S_7) hx hb hK hP hD hS 13 0 rfl rfl hin1 dX7_halves_164 (fun H locs hP hD hS => ?_)
              obtain ⟨S_15, e_S_15⟩ : ∃ z : MSt, z = (mset_pf S_7 (upd (mpf S_7) (q2 + (1 : Int32)).toNatClampNeg ((mpf S_7 q2.toNatClampNeg) + v5_4))) := ⟨_, rfl⟩
              have hP : va_P (dC, dI) vwCl (mWs o r cI cJ S_15) H := by rw [e_S_15]; exact hP
              have hD : va_D A (mWs o r cI cJ S_15) := by rw [e_S_15]; exact hD
              have hw : mH dC dI o r cI cJ S_15 s H := ⟨hP, hK⟩
              have hm := mA_of hts hw
              have hI : mInv S_15 := by rw [e_S_15]; exact hI
              have hR : mRow S_15 x1 := by rw [e_S_15]; exact hR
              have hf : f_X7_halves S x1 = (f_X7_halves_2 w_5 rec_29 S_15 q2 v5_4 q3) := hf.trans (congrArg (fun z => (f_X7_halves_2 w_5 rec_29 z q2 v5_4 q3)) e_S_15.symm)
              refine lv_aload_n hx hb dX7_halves_165 rfl (lv_at hl 1 rfl) ?_
              refine va_get (D := (dC, dI)) (ci := 5) (v := .ref (r 13)) (C := RX7) (T := TX7) (N := 18) hx hb hts zin_X7 hown hK hP 0 rfl rfl 13 (by decide) (hts _ (zin__r3 (.fieldLink RX7 66 "ReckonBenchModel" "partSize" "[I") (List.mem_of_getElem? (i := 7) rfl))) (fun _ h9 => h9) rfl dX7_halves_166 ?_
              refine lv_iload_n hx hb dX7_halves_169 rfl (lv_at hl 3 rfl) ?_
              refine lv_iconst (v := 1) hx hb dX7_halves_170 (by decide) ?_
              refine lv_iadd hx hb dX7_halves_171 ?_
              refine lv_iload hx hb dX7_halves_172 (lv_at hl 0 rfl) ?_
              refine lv_if_eq (tgt := 189) hx hb dX7_halves_174 (by decide) (fun c_174 => ?_) (fun c_174 => ?_)
              · have hf : f_X7_halves S x1 = (f_X7_halves_1 rec_29 (mset_pz S_15 (upd (mpz S_15) (q2 + (1 : Int32)).toNatClampNeg v5_4)) q2 q3) := hf.trans (if_pos c_174)
                refine lv_iload hx hb dX7_halves_189 (lv_at hl 5 rfl) ?_
                refine va_iast (f := mpz S_15) hx hb hK hP hD hS 14 0 rfl rfl hin1 dX7_halves_191 (fun H locs hP hD hS => ?_)
                obtain ⟨S_16, e_S_16⟩ : ∃ z : MSt, z = (mset_pz S_15 (upd (mpz S_15) (q2 + (1 : Int32)).toNatClampNeg v5_4)) := ⟨_, rfl⟩
                have hP : va_P (dC, dI) vwCl (mWs o r cI cJ S_16) H := by rw [e_S_16]; exact hP
                have hD : va_D A (mWs o r cI cJ S_16) := by rw [e_S_16]; exact hD
                have hw : mH dC dI o r cI cJ S_16 s H := ⟨hP, hK⟩
                have hm := mA_of hts hw
                have hI : mInv S_16 := by rw [e_S_16]; exact hI
                have hR : mRow S_16 x1 := by rw [e_S_16]; exact hR
                have hf : f_X7_halves S x1 = (f_X7_halves_1 rec_29 S_16 q2 q3) := hf.trans (congrArg (fun z => (f_X7_halves_1 rec_29 z q2 q3)) e_S_16.symm)
                refine lv_aload_n hx hb dX7_halves_192 rfl (lv_at hl 1 rfl) ?_
                refine va_get (D := (dC, dI)) (ci := 5) (v := .ref (r 14)) (C := RX7) (T := TX7) (N := 18) hx hb hts zin_X7 hown hK hP 0 rfl rfl 14 (by decide) (hts _ (zin__r3 (.fieldLink RX7 69 "ReckonBenchModel" "partDone" "[I") (List.mem_of_getElem? (i := 8) rfl))) (fun _ h9 => h9) rfl dX7_halves_193 ?_
                refine lv_iload_n hx hb dX7_halves_196 rfl (lv_at hl 3 rfl) ?_
                refine lv_iconst (v := 1) hx hb dX7_halves_197 (by decide) ?_
                refine lv_iadd hx hb dX7_halves_198 ?_
                refine lv_iconst (v := 0) hx hb dX7_halves_199 (by decide) ?_
                refine va_iast (f := mpd S_16) hx hb hK hP hD hS 15 0 rfl rfl hin1 dX7_halves_200 (fun H locs hP hD hS => ?_)
                obtain ⟨S_17, e_S_17⟩ : ∃ z : MSt, z = (mset_pd S_16 (upd (mpd S_16) (q2 + (1 : Int32)).toNatClampNeg (0 : Int32))) := ⟨_, rfl⟩
                have hP : va_P (dC, dI) vwCl (mWs o r cI cJ S_17) H := by rw [e_S_17]; exact hP
                have hD : va_D A (mWs o r cI cJ S_17) := by rw [e_S_17]; exact hD
                have hw : mH dC dI o r cI cJ S_17 s H := ⟨hP, hK⟩
                have hm := mA_of hts hw
                have hI : mInv S_17 := by rw [e_S_17]; exact hI
                have hR : mRow S_17 x1 := by rw [e_S_17]; exact hR
                have hf : f_X7_halves S x1 = (rec_29 S_17 (q2 + (1 : Int32)) q3) := hf.trans (congrArg (fun z => (rec_29 z (q2 + (1 : Int32)) q3)) e_S_17.symm)
                have hP9 : hvI (mk S_17 x1.toNatClampNeg) (f_X7_size S_17 x1).toNatClampNeg S_17 (q2 + (1 : Int32)) q3 n_29 := (by rw [e_S_17, e_S_16, e_S_15, e_S_7, e_S_6]; exact hvI.push hJ.1 c_30 (show ¬ mpz qS q2.toNatClampNeg / (2 : Int32) = 0 by rw [← e_v5_4]; exact c_45) c_73 (by exact hI_115.elim (fun h9 => by first | exact absurd h9.1 (by rw [c_143]; decide) | exact absurd h9.1 (by rw [c_174]; decide) | exact (Or.inl ⟨h9.2, congrArg (fun z => mpf qS q2.toNatClampNeg + z) e_v5_4, congrArg (fun z => mpz qS q2.toNatClampNeg - z) e_v5_4⟩)) (fun h9 => by first | exact absurd h9.1 c_143 | exact absurd h9.1 c_174 | exact (Or.inr ⟨h9.2, rfl, e_v5_4⟩))) rfl rfl rfl rfl)
                obtain ⟨v2_18, e_v2_18⟩ : ∃ y : Int32, y = (q2 + (1 : Int32)) := ⟨_, rfl⟩
                refine lv_iinc (v := v2_18) (lv' := [(2, .int v2_18), (6, .int w_5), (0, .ref o), (1, .int x1), (3, .long q3), (5, .int v5_4)]) hx hb dX7_halves_201 hl (k := 3) rfl (by rw [e_v2_18]; rfl) (by decide) rfl (fun ls hl => ?_)
                have hf : f_X7_halves S x1 = (rec_29 S_17 v2_18 q3) := hf.trans (congrArg (fun z => (rec_29 S_17 z q3)) e_v2_18.symm)
                refine lv_goto (tgt := 29) hx hb dX7_halves_204 (by decide) ?_
                exact ih_29 (S_17, v2_18, q3) _ _ ls ⟨hf.trans (congrFun (congrFun (congrFun hrec_29 _) _) _), ⟨by rw [e_v2_18]; exact hP9, hI, hR⟩, hw, hD, hS⟩ (lv_sub hl [2, 3, 0, 4] rfl)
              · have hf : f_X7_halves S x1 = (f_X7_halves_1 rec_29 (mset_pz S_15 (upd (mpz S_15) (q2 + (1 : Int32)).toNatClampNeg ((mpz S_15 q2.toNatClampNeg) - v5_4))) q2 q3) := hf.trans (if_neg c_174)
                refine lv_aload_n hx hb dX7_halves_177 rfl (lv_at hl 1 rfl) ?_
                refine va_get (D := (dC, dI)) (ci := 5) (v := .ref (r 13)) (C := RX7) (T := TX7) (N := 18) hx hb hts zin_X7 hown hK hP 0 rfl rfl 13 (by decide) (hts _ (zin__r3 (.fieldLink RX7 66 "ReckonBenchModel" "partSize" "[I") (List.mem_of_getElem? (i := 7) rfl))) (fun _ h9 => h9) rfl dX7_halves_178 ?_
                refine lv_iload_n hx hb dX7_halves_181 rfl (lv_at hl 3 rfl) ?_
                refine va_iald (f := mpz S_15) hx hb hK hP 14 0 rfl rfl hin dX7_halves_182 ?_
                refine lv_iload hx hb dX7_halves_183 (lv_at hl 5 rfl) ?_
                refine lv_isub hx hb dX7_halves_185 ?_
                refine lv_goto (tgt := 191) hx hb dX7_halves_186 (by decide) ?_
                refine va_iast (f := mpz S_15) hx hb hK hP hD hS 14 0 rfl rfl hin1 dX7_halves_191 (fun H locs hP hD hS => ?_)
                obtain ⟨S_19, e_S_19⟩ : ∃ z : MSt, z = (mset_pz S_15 (upd (mpz S_15) (q2 + (1 : Int32)).toNatClampNeg ((mpz S_15 q2.toNatClampNeg) - v5_4))) := ⟨_, rfl⟩
                have hP : va_P (dC, dI) vwCl (mWs o r cI cJ S_19) H := by rw [e_S_19]; exact hP
                have hD : va_D A (mWs o r cI cJ S_19) := by rw [e_S_19]; exact hD
                have hw : mH dC dI o r cI cJ S_19 s H := ⟨hP, hK⟩
                have hm := mA_of hts hw
                have hI : mInv S_19 := by rw [e_S_19]; exact hI
                have hR : mRow S_19 x1 := by rw [e_S_19]; exact hR
                have hf : f_X7_halves S x1 = (f_X7_halves_1 rec_29 S_19 q2 q3) := hf.trans (congrArg (fun z => (f_X7_halves_1 rec_29 z q2 q3)) e_S_19.symm)
                refine lv_aload_n hx hb dX7_halves_192 rfl (lv_at hl 1 rfl) ?_
                refine va_get (D := (dC, dI)) (ci := 5) (v := .ref (r 14)) (C := RX7) (T := TX7) (N := 18) hx hb hts zin_X7 hown hK hP 0 rfl rfl 14 (by decide) (hts _ (zin__r3 (.fieldLink RX7 69 "ReckonBenchModel" "partDone" "[I") (List.mem_of_getElem? (i := 8) rfl))) (fun _ h9 => h9) rfl dX7_halves_193 ?_
                refine lv_iload_n hx hb dX7_halves_196 rfl (lv_at hl 3 rfl) ?_
                refine lv_iconst (v := 1) hx hb dX7_halves_197 (by decide) ?_
                refine lv_iadd hx hb dX7_halves_198 ?_
                refine lv_iconst (v := 0) hx hb dX7_halves_199 (by decide) ?_
                refine va_iast (f := mpd S_19) hx hb hK hP hD hS 15 0 rfl rfl hin1 dX7_halves_200 (fun H locs hP hD hS => ?_)
                obtain ⟨S_20, e_S_20⟩ : ∃ z : MSt, z = (mset_pd S_19 (upd (mpd S_19) (q2 + (1 : Int32)).toNatClampNeg (0 : Int32))) := ⟨_, rfl⟩
                have hP : va_P (dC, dI) vwCl (mWs o r cI cJ S_20) H := by rw [e_S_20]; exact hP
                have hD : va_D A (mWs o r cI cJ S_20) := by rw [e_S_20]; exact hD
                have hw : mH dC dI o r cI cJ S_20 s H := ⟨hP, hK⟩
                have hm := mA_of hts hw
                have hI : mInv S_20 := by rw [e_S_20]; exact hI
                have hR : mRow S_20 x1 := by rw [e_S_20]; exact hR
                have hf : f_X7_halves S x1 = (rec_29 S_20 (q2 + (1 : Int32)) q3) := hf.trans (congrArg (fun z => (rec_29 z (q2 + (1 : Int32)) q3)) e_S_20.symm)
                have hP9 : hvI (mk S_20 x1.toNatClampNeg) (f_X7_size S_20 x1).toNatClampNeg S_20 (q2 + (1 : Int32)) q3 n_29 := (by rw [e_S_20, e_S_19, e_S_15, e_S_7, e_S_6]; exact hvI.push hJ.1 c_30 (show ¬ mpz qS q2.toNatClampNeg / (2 : Int32) = 0 by rw [← e_v5_4]; exact c_45) c_73 (by exact hI_115.elim (fun h9 => by first | exact absurd h9.1 (by rw [c_143]; decide) | exact absurd h9.1 (by rw [c_174]; decide) | exact (Or.inl ⟨h9.2, congrArg (fun z => mpf qS q2.toNatClampNeg + z) e_v5_4, congrArg (fun z => mpz qS q2.toNatClampNeg - z) e_v5_4⟩)) (fun h9 => by first | exact absurd h9.1 c_143 | exact absurd h9.1 c_174 | exact (Or.inr ⟨h9.2, rfl, e_v5_4⟩))) rfl rfl rfl rfl)
                obtain ⟨v2_21, e_v2_21⟩ : ∃ y : Int32, y = (q2 + (1 : Int32)) := ⟨_, rfl⟩
                refine lv_iinc (v := v2_21) (lv' := [(2, .int v2_21), (6, .int w_5), (0, .ref o), (1, .int x1), (3, .long q3), (5, .int v5_4)]) hx hb dX7_halves_201 hl (k := 3) rfl (by rw [e_v2_21]; rfl) (by decide) rfl (fun ls hl => ?_)
                have hf : f_X7_halves S x1 = (rec_29 S_20 v2_21 q3) := hf.trans (congrArg (fun z => (rec_29 S_20 z q3)) e_v2_21.symm)
                refine lv_goto (tgt := 29) hx hb dX7_halves_204 (by decide) ?_
                exact ih_29 (S_20, v2_21, q3) _ _ ls ⟨hf.trans (congrFun (congrFun (congrFun hrec_29 _) _) _), ⟨by rw [e_v2_21]; exact hP9, hI, hR⟩, hw, hD, hS⟩ (lv_sub hl [2, 3, 0, 4] rfl)
          refine lv_icmp_ne (tgt := 114) hx hb dX7_halves_107 (by decide) (fun c_107 => ?_) (fun c_107 => ?_)
          · have hf : f_X7_halves S x1 = (f_X7_halves_5 (0 : Int32) rec_29 qS q2 q3 v5_4) := hf.trans (if_neg c_107)
            refine lv_iconst (v := 0) hx hb dX7_halves_114 (by decide) ?_
            exact K_115 (0 : Int32) ls ⟨hf, (Or.inr ⟨rfl, c_107⟩)⟩ (lv_sub hl [1, 2, 3, 4, 0] rfl)
          · have hf : f_X7_halves S x1 = (f_X7_halves_5 (1 : Int32) rec_29 qS q2 q3 v5_4) := hf.trans (if_pos c_107)
            refine lv_iconst (v := 1) hx hb dX7_halves_110 (by decide) ?_
            refine lv_goto (tgt := 115) hx hb dX7_halves_111 (by decide) ?_
            exact K_115 (1 : Int32) ls ⟨hf, (Or.inl ⟨rfl, c_107⟩)⟩ (lv_sub hl [1, 2, 3, 4, 0] rfl)
        · have hf : f_X7_halves S x1 = (rec_29 qS (q2 + (-1 : Int32)) (f_X7_plus (mk qS x1.toNatClampNeg) (mpu qS q2.toNatClampNeg) q3)) := hf.trans (if_pos c_73)
          refine lv_aload_n hx hb dX7_halves_76 rfl (lv_at hl 1 rfl) ?_
          refine lv_aload_n hx hb dX7_halves_77 rfl (lv_at hl 1 rfl) ?_
          refine va_get (D := (dC, dI)) (ci := 5) (v := .ref (r 8)) (C := RX7) (T := TX7) (N := 18) hx hb hts zin_X7 hown hK hP 0 rfl rfl 8 (by decide) (hts _ (zin__r3 (.fieldLink RX7 51 "ReckonBenchModel" "kinds" "[I") (List.mem_of_getElem? (i := 2) rfl))) (fun _ h9 => h9) rfl dX7_halves_78 ?_
          refine lv_iload_n hx hb dX7_halves_81 rfl (lv_at hl 2 rfl) ?_
          refine va_iald (f := fun j => nI (mk qS j)) hx hb hK hP 9 0 rfl rfl (mRow.in2 hI hR) dX7_halves_82 ?_
          refine lv_aload_n hx hb dX7_halves_83 rfl (lv_at hl 1 rfl) ?_
          refine va_get (D := (dC, dI)) (ci := 5) (v := .ref (r 15)) (C := RX7) (T := TX7) (N := 18) hx hb hts zin_X7 hown hK hP 0 rfl rfl 15 (by decide) (hts _ (zin__r3 (.fieldLink RX7 72 "ReckonBenchModel" "partSum" "[J") (List.mem_of_getElem? (i := 9) rfl))) (fun _ h9 => h9) rfl dX7_halves_84 ?_
          refine lv_iload_n hx hb dX7_halves_87 rfl (lv_at hl 3 rfl) ?_
          refine va_lald (f := mpu qS) hx hb hK hP 16 1 rfl rfl hin dX7_halves_88 ?_
          refine lv_lload_n hx hb dX7_halves_89 rfl (lv_at hl 4 rfl) ?_
          refine vp_callSl (va_Run.run (va_runV (As := [.int (nI (mk qS x1.toNatClampNeg)), .long (mpu qS q2.toNatClampNeg), .long q3]) (rest := []) ⟨hx, hb, hml, hown, hts⟩ (c_X7_plus l o r (mk qS x1.toNatClampNeg) (mRow.k hI hR) (mpu qS q2.toNatClampNeg) q3 (hJ.1.sum c_30 c_73) hJ.1.2.2) (cwV 3 hts (gV iX7_plus (zin__r21 (.methodLink RX7 197 yX7_plus) (List.mem_of_getElem? (i := 2) rfl))) rfl rfl rfl (by decide +kernel) ⟨Nat.le_of_ble_eq_true rfl, Nat.le_of_ble_eq_true rfl⟩) ⟨fun a U g mk q => ⟨q.1, mU_bl q.2⟩, (mW_rv hw), fun U hU hW => ⟨rfl, mU_mvH hm hU hW⟩⟩ rfl rfl hl.1 rfl (lv_room (Nat.le_of_ble_eq_true rfl)) dX7_halves_90 ⟨Nat.zero_le _, Nat.zero_le _⟩)) (fun r_90 hr_90 => ?_)
          subst hr_90
          refine lv_topl (fun v3_22 e_v3_22 => ?_)
          have hf : f_X7_halves S x1 = (rec_29 qS (q2 + (-1 : Int32)) v3_22) := hf.trans (congrArg (fun z => (rec_29 qS (q2 + (-1 : Int32)) z)) e_v3_22.symm)
          refine lv_lstore_n (lv' := [(3, .long v3_22), (5, .int v5_4), (0, .ref o), (1, .int x1), (2, .int q2)]) hx hb dX7_halves_93 rfl hl (by decide) rfl (fun ls hl => ?_)
          obtain ⟨v2_23, e_v2_23⟩ : ∃ y : Int32, y = (q2 + (-1 : Int32)) := ⟨_, rfl⟩
          refine lv_iinc (v := v2_23) (lv' := [(2, .int v2_23), (3, .long v3_22), (5, .int v5_4), (0, .ref o), (1, .int x1)]) hx hb dX7_halves_94 hl (k := 4) rfl (by rw [e_v2_23]; rfl) (by decide) rfl (fun ls hl => ?_)
          have hf : f_X7_halves S x1 = (rec_29 qS v2_23 v3_22) := hf.trans (congrArg (fun z => (rec_29 qS z v3_22)) e_v2_23.symm)
          refine lv_goto (tgt := 204) hx hb dX7_halves_97 (by decide) ?_
          refine lv_goto (tgt := 29) hx hb dX7_halves_204 (by decide) ?_
          exact ih_29 (qS, v2_23, v3_22) _ _ ls ⟨hf.trans (congrFun (congrFun (congrFun hrec_29 _) _) _), ⟨by rw [e_v2_23]; exact hvI.pop hJ.1 c_30 (by rw [e_v3_22]; exact plus_clean (mRow.k hI hR) (hJ.1.sum c_30 c_73) hJ.1.2.2), hI, hR⟩, hw, hD, hS⟩ (lv_sub hl [3, 4, 0, 1] rfl)
      · have hf : f_X7_halves S x1 = (rec_29 qS (q2 + (-1 : Int32)) (f_X7_at qS x1 (mpf qS q2.toNatClampNeg))) := hf.trans (if_pos c_45)
        refine lv_aload_n hx hb dX7_halves_48 rfl (lv_at hl 1 rfl) ?_
        refine lv_iload_n hx hb dX7_halves_49 rfl (lv_at hl 2 rfl) ?_
        refine lv_aload_n hx hb dX7_halves_50 rfl (lv_at hl 1 rfl) ?_
        refine va_get (D := (dC, dI)) (ci := 5) (v := .ref (r 12)) (C := RX7) (T := TX7) (N := 18) hx hb hts zin_X7 hown hK hP 0 rfl rfl 12 (by decide) (hts _ (zin__r3 (.fieldLink RX7 63 "ReckonBenchModel" "partFrom" "[I") (List.mem_of_getElem? (i := 6) rfl))) (fun _ h9 => h9) rfl dX7_halves_51 ?_
        refine lv_iload_n hx hb dX7_halves_54 rfl (lv_at hl 3 rfl) ?_
        refine va_iald (f := mpf qS) hx hb hK hP 13 0 rfl rfl hin dX7_halves_55 ?_
        refine vp_callSl (va_Run.run (va_runV (As := [.int x1, .int (mpf qS q2.toNatClampNeg)]) (rest := []) ⟨hx, hb, hml, hown, hts⟩ (c_X7_at l dC dI o r cI cJ qS x1 (mpf qS q2.toNatClampNeg) (mRow.in0 hI (mPl.row (hvI.pl hI hR hJ.1 c_30))) (mPl.at hI (hvI.pl hI hR hJ.1 c_30))) (cwV 2 hts (gV iX7_at (zin__r11 (.methodLink RX7 155 yX7_at) (List.mem_of_getElem? (i := 2) rfl))) rfl rfl rfl (by decide +kernel) ⟨Nat.le_of_ble_eq_true rfl, Nat.le_of_ble_eq_true rfl⟩) ⟨fun a U g mk q => ⟨q.1, mW_bl q.2⟩, (mW_rv hw), fun U hU hW => ⟨rfl, mW_mv hw hU hW⟩⟩ rfl rfl hl.1 rfl (lv_room (Nat.le_of_ble_eq_true rfl)) dX7_halves_56 ⟨Nat.zero_le _, Nat.zero_le _⟩)) (fun r_56 hr_56 => ?_)
        subst hr_56
        refine lv_topl (fun v3_24 e_v3_24 => ?_)
        have hf : f_X7_halves S x1 = (rec_29 qS (q2 + (-1 : Int32)) v3_24) := hf.trans (congrArg (fun z => (rec_29 qS (q2 + (-1 : Int32)) z)) e_v3_24.symm)
        refine lv_lstore_n (lv' := [(3, .long v3_24), (5, .int v5_4), (0, .ref o), (1, .int x1), (2, .int q2)]) hx hb dX7_halves_59 rfl hl (by decide) rfl (fun ls hl => ?_)
        obtain ⟨v2_25, e_v2_25⟩ : ∃ y : Int32, y = (q2 + (-1 : Int32)) := ⟨_, rfl⟩
        refine lv_iinc (v := v2_25) (lv' := [(2, .int v2_25), (3, .long v3_24), (5, .int v5_4), (0, .ref o), (1, .int x1)]) hx hb dX7_halves_60 hl (k := 4) rfl (by rw [e_v2_25]; rfl) (by decide) rfl (fun ls hl => ?_)
        have hf : f_X7_halves S x1 = (rec_29 qS v2_25 v3_24) := hf.trans (congrArg (fun z => (rec_29 qS z v3_24)) e_v2_25.symm)
        refine lv_goto (tgt := 204) hx hb dX7_halves_63 (by decide) ?_
        refine lv_goto (tgt := 29) hx hb dX7_halves_204 (by decide) ?_
        exact ih_29 (qS, v2_25, v3_24) _ _ ls ⟨hf.trans (congrFun (congrFun (congrFun hrec_29 _) _) _), ⟨by rw [e_v2_25]; exact hvI.pop hJ.1 c_30 (by rw [e_v3_24]; exact mPl.cln hI (hvI.pl hI hR hJ.1 c_30)), hI, hR⟩, hw, hD, hS⟩ (lv_sub hl [3, 4, 0, 1] rfl)
