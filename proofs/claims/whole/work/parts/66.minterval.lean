def f_X7_interval_1 (S_2 : MSt) (x1 : Int32) (x2 : Int32) : Int32 × MSt := ((1 : Int32), (f_X7_bounds S_2 x1 x2 (f_X7_signed (mk S_2 x1.toNatClampNeg) (kinf (mk S_2 x1.toNatClampNeg)) (1 : Int32)) (kinf (mk S_2 x1.toNatClampNeg))))
def f_X7_interval_2 (S_2 : MSt) (x1 : Int32) (x2 : Int32) (v15_12 : Int64) (v17_13 : Int64) : Int32 × MSt := ((0 : Int32), (f_X7_bounds S_2 x1 x2 (f_X7_downward (mk S_2 x1.toNatClampNeg) v15_12) (f_X7_upward (mk S_2 x1.toNatClampNeg) v17_13)))
def f_X7_interval_3 (S_2 : MSt) (x1 : Int32) (x2 : Int32) (v19_15 : Int64) (v21_16 : Int64) (v23_17 : Int64) (v25_18 : Int64) : Int32 × MSt := (f_X7_interval_2 S_2 x1 x2 (f_X7_lesser (mk S_2 x1.toNatClampNeg) (f_X7_lesser (mk S_2 x1.toNatClampNeg) v19_15 v21_16) (f_X7_lesser (mk S_2 x1.toNatClampNeg) v23_17 v25_18)) (f_X7_greater (mk S_2 x1.toNatClampNeg) (f_X7_greater (mk S_2 x1.toNatClampNeg) v19_15 v21_16) (f_X7_greater (mk S_2 x1.toNatClampNeg) v23_17 v25_18)))
def f_X7_interval_4 (x4 : Int32) (S_2 : MSt) (x1 : Int32) (x2 : Int32) (v15_9 : Int64) (v17_11 : Int64) (v7_3 : Int64) (v11_5 : Int64) (v13_6 : Int64) (v9_4 : Int64) : Int32 × MSt := if x4 ≤ (1 : Int32) then (f_X7_interval_2 S_2 x1 x2 v15_9 v17_11) else (f_X7_interval_3 S_2 x1 x2 (f_X7_member (mk S_2 x1.toNatClampNeg) x4 v7_3 v11_5) (f_X7_member (mk S_2 x1.toNatClampNeg) x4 v7_3 v13_6) (f_X7_member (mk S_2 x1.toNatClampNeg) x4 v9_4 v11_5) (f_X7_member (mk S_2 x1.toNatClampNeg) x4 v9_4 v13_6))
def f_X7_interval_5 (x4 : Int32) (S_2 : MSt) (x1 : Int32) (x2 : Int32) (v15_9 : Int64) (v9_4 : Int64) (w_10 : Int64) (v7_3 : Int64) (v11_5 : Int64) (v13_6 : Int64) : Int32 × MSt := (f_X7_interval_4 x4 S_2 x1 x2 v15_9 (f_X7_plus (mk S_2 x1.toNatClampNeg) v9_4 w_10) v7_3 v11_5 v13_6 v9_4)
def f_X7_interval_6 (x4 : Int32) (S_2 : MSt) (x1 : Int32) (x2 : Int32) (v15_9 : Int64) (v9_4 : Int64) (v13_6 : Int64) (v7_3 : Int64) (v11_5 : Int64) : Int32 × MSt := if x4 = 0 then (f_X7_interval_5 x4 S_2 x1 x2 v15_9 v9_4 v13_6 v7_3 v11_5 v13_6) else (f_X7_interval_5 x4 S_2 x1 x2 v15_9 v9_4 (f_X7_turned (mk S_2 x1.toNatClampNeg) v11_5) v7_3 v11_5 v13_6)
def f_X7_interval_7 (x4 : Int32) (S_2 : MSt) (x1 : Int32) (x2 : Int32) (v7_3 : Int64) (w_8 : Int64) (v9_4 : Int64) (v13_6 : Int64) (v11_5 : Int64) : Int32 × MSt := (f_X7_interval_6 x4 S_2 x1 x2 (f_X7_plus (mk S_2 x1.toNatClampNeg) v7_3 w_8) v9_4 v13_6 v7_3 v11_5)
def f_X7_interval_8 (x4 : Int32) (S_2 : MSt) (x1 : Int32) (x2 : Int32) (v7_3 : Int64) (v11_5 : Int64) (v9_4 : Int64) (v13_6 : Int64) : Int32 × MSt := if x4 = 0 then (f_X7_interval_7 x4 S_2 x1 x2 v7_3 v11_5 v9_4 v13_6 v11_5) else (f_X7_interval_7 x4 S_2 x1 x2 v7_3 (f_X7_turned (mk S_2 x1.toNatClampNeg) v13_6) v9_4 v13_6 v11_5)
def f_X7_interval_9 (p9 : Int32 × MSt) : Int32 × MSt := (p9.1, p9.2)
def f_X7_interval_10 (x4 : Int32) (S_2 : MSt) (x1 : Int32) (x2 : Int32) (v7_3 : Int64) (v11_5 : Int64) (v9_4 : Int64) (v13_6 : Int64) : Int32 × MSt := if x4 = (5 : Int32) then (f_X7_interval_9 (f_X7_meet S_2 x1 x2 (f_X7_greater (mk S_2 x1.toNatClampNeg) v7_3 v11_5) (f_X7_lesser (mk S_2 x1.toNatClampNeg) v9_4 v13_6))) else (f_X7_interval_8 x4 S_2 x1 x2 v7_3 v11_5 v9_4 v13_6)
def f_X7_interval_11 (x4 : Int32) (S_2 : MSt) (x1 : Int32) (x2 : Int32) (v7_3 : Int64) (v11_5 : Int64) (v9_4 : Int64) (v13_6 : Int64) : Int32 × MSt := if x4 = (4 : Int32) then ((0 : Int32), (f_X7_bounds S_2 x1 x2 (f_X7_lesser (mk S_2 x1.toNatClampNeg) v7_3 v11_5) (f_X7_greater (mk S_2 x1.toNatClampNeg) v9_4 v13_6))) else (f_X7_interval_10 x4 S_2 x1 x2 v7_3 v11_5 v9_4 v13_6)
def f_X7_interval_12 (S_2 : MSt) (x1 : Int32) (v13_6 : Int64) (x4 : Int32) (x2 : Int32) (v7_3 : Int64) (v11_5 : Int64) (v9_4 : Int64) : Int32 × MSt := if (f_X7_rank (mk S_2 x1.toNatClampNeg) v13_6) < (0 : Int64) then (f_X7_interval_11 x4 S_2 x1 x2 v7_3 v11_5 v9_4 v13_6) else (f_X7_interval_1 S_2 x1 x2)
def f_X7_interval_13 (S_2 : MSt) (x1 : Int32) (v11_5 : Int64) (x4 : Int32) (x2 : Int32) (v7_3 : Int64) (v9_4 : Int64) (v13_6 : Int64) : Int32 × MSt := if (0 : Int64) < (f_X7_rank (mk S_2 x1.toNatClampNeg) v11_5) then (f_X7_interval_11 x4 S_2 x1 x2 v7_3 v11_5 v9_4 v13_6) else (f_X7_interval_12 S_2 x1 v13_6 x4 x2 v7_3 v11_5 v9_4)
def f_X7_interval_14 (x4 : Int32) (S_2 : MSt) (x1 : Int32) (v11_5 : Int64) (x2 : Int32) (v7_3 : Int64) (v9_4 : Int64) (v13_6 : Int64) : Int32 × MSt := if x4 = (3 : Int32) then (f_X7_interval_13 S_2 x1 v11_5 x4 x2 v7_3 v9_4 v13_6) else (f_X7_interval_11 x4 S_2 x1 x2 v7_3 v11_5 v9_4 v13_6)
def f_X7_interval_15 (S_2 : MSt) (x1 : Int32) (x3 : Int32) (x2 : Int32) (x4 : Int32) (v11_5 : Int64) (v7_3 : Int64) (v9_4 : Int64) (v13_6 : Int64) : Int32 × MSt := if (f_X7_isInterval S_2 x1 x3) = 0 then (f_X7_interval_1 S_2 x1 x2) else (f_X7_interval_14 x4 S_2 x1 v11_5 x2 v7_3 v9_4 v13_6)
def f_X7_interval_16 (S_2 : MSt) (x1 : Int32) (x2 : Int32) (x3 : Int32) (x4 : Int32) (v11_5 : Int64) (v7_3 : Int64) (v9_4 : Int64) (v13_6 : Int64) : Int32 × MSt := if (f_X7_isInterval S_2 x1 x2) = 0 then (f_X7_interval_1 S_2 x1 x2) else (f_X7_interval_15 S_2 x1 x3 x2 x4 v11_5 v7_3 v9_4 v13_6)
def f_X7_interval_17 (S_2 : MSt) (x1 : Int32) (x2 : Int32) (x3 : Int32) (x4 : Int32) : Int32 × MSt := (f_X7_interval_16 S_2 x1 x2 x3 x4 (f_X7_at S_2 x1 ((2 : Int32) * x3)) (f_X7_at S_2 x1 ((2 : Int32) * x2)) (f_X7_at S_2 x1 (((2 : Int32) * x2) + (1 : Int32))) (f_X7_at S_2 x1 (((2 : Int32) * x3) + (1 : Int32))))
def f_X7_interval_18 (w_1 : Int32) (S : MSt) (x1 : Int32) (x2 : Int32) (x3 : Int32) (x4 : Int32) : Int32 × MSt := if w_1 ≤ 0 then (f_X7_interval_17 (mset_s S (0 : Int32)) x1 x2 x3 x4) else (f_X7_interval_9 (f_X7_no S w_1))
def f_X7_interval_19 (x4 : Int32) (S : MSt) (x1 : Int32) (x2 : Int32) (x3 : Int32) : Int32 × MSt := if x4 ≤ (5 : Int32) then (f_X7_interval_18 (0 : Int32) S x1 x2 x3 x4) else (f_X7_interval_18 (2 : Int32) S x1 x2 x3 x4)
def f_X7_interval_20 (x4 : Int32) (S : MSt) (x1 : Int32) (x2 : Int32) (x3 : Int32) : Int32 × MSt := if x4 < 0 then (f_X7_interval_18 (2 : Int32) S x1 x2 x3 x4) else (f_X7_interval_19 x4 S x1 x2 x3)
def f_X7_interval_21 (S : MSt) (x1 : Int32) (x3 : Int32) (x4 : Int32) (x2 : Int32) : Int32 × MSt := if (f_X7_noPair S x1 x3) = 0 then (f_X7_interval_20 x4 S x1 x2 x3) else (f_X7_interval_18 (2 : Int32) S x1 x2 x3 x4)
def f_X7_interval_22 (S : MSt) (x1 : Int32) (x2 : Int32) (x3 : Int32) (x4 : Int32) : Int32 × MSt := if (f_X7_noPair S x1 x2) = 0 then (f_X7_interval_21 S x1 x3 x4 x2) else (f_X7_interval_18 (2 : Int32) S x1 x2 x3 x4)
def f_X7_interval_23 (x1 : Int32) (S : MSt) (x2 : Int32) (x3 : Int32) (x4 : Int32) : Int32 × MSt := if x1 < (nI (mn S)) then (f_X7_interval_22 S x1 x2 x3 x4) else (f_X7_interval_18 (1 : Int32) S x1 x2 x3 x4)
def f_X7_interval_24 (x1 : Int32) (S : MSt) (x2 : Int32) (x3 : Int32) (x4 : Int32) : Int32 × MSt := if x1 < 0 then (f_X7_interval_18 (1 : Int32) S x1 x2 x3 x4) else (f_X7_interval_23 x1 S x2 x3 x4)
def f_X7_interval (S : MSt) (x1 : Int32) (x2 : Int32) (x3 : Int32) (x4 : Int32) : Int32 × MSt := (f_X7_interval_24 x1 S x2 x3 x4)
def zX7_interval : List Cond := .code yX7_interval cX7_interval 27 (some .int) :: zall
theorem iX7_interval : MWv RX7 yX7_interval (.code yX7_interval cX7_interval 27 (some .int)) := ⟨(zin__r29 (.instanceMethod yX7_interval) (List.mem_of_getElem? (i := 20) rfl)), (zin__r29 (.selects RX7 yX7_interval yX7_interval) (List.mem_of_getElem? (i := 21) rfl)), (zin__r1 (.initialized RX7) (List.mem_of_getElem? (i := 5) rfl)), (zin__r29 (.code yX7_interval cX7_interval 27 (some .int)) (List.mem_of_getElem? (i := 22) rfl))⟩
set_option maxHeartbeats 4000000 in
set_option maxRecDepth 100000 in
theorem c_X7_interval (l : Launch) (dC : Nat → ClassId) (dI : Nat → Nat → Nat) (o : Nat) (r : Nat → Nat) (cI cJ : ClassId) (sz : Nat) (S : MSt) (x1 : Int32) (x2 : Int32) (x3 : Int32) (x4 : Int32) (hI : mInv S) : Met l yX7_interval zX7_interval ({ frames := 4, cells := 0, slots := 0, locals := 126 }) (va_Pc [.ref o, .int x1, .int x2, .int x3, .int x4] (fun U => mB dC dI o r cI cJ sz S U)) (va_Qi (fun r9 S9 => (r9, S9) = f_X7_interval S x1 x2 x3 x4) (mE dC dI o r cI cJ (va_A (mWs o r cI cJ S) sz)) (va_A (mWs o r cI cJ S) sz)) 0 0 (va_A (mWs o r cI cJ S) sz) := by
  refine Met.ofW (cc := cX7_interval) (maxL := 27) (ret := (some .int)) (by decide) rfl ?_
  intro p e s m args below meth c s₁ B hml hv
  obtain ⟨rfl, hsz, hP, hK, hD0⟩ := hv
  have hx := B.exec
  have hb := B.bytes
  have hr := B.returns
  have hts : ∀ w ∈ zall, w.before _ s = true := fun w h => atoms_spec (ws := zX7_interval) B.pre w (List.mem_cons_of_mem _ h)
  have hown : s.vm.findClass RX7 = some m.cls := findClass_of_methodNamed B.named
  have hlocks := B.notSynchronized
  subst hsz
  have hD := hD0.self (sz := s.heap.size)
  generalize hAe : va_A (mWs o r cI cJ S) s.heap.size = A at hD ⊢
  have hA : ∀ q : Nat, s.heap.size ≤ q → A q := fun q h => by rw [← hAe]; exact Or.inr h
  have hS : va_S A s.heap s.heap [] := va_S.rf
  have hw : mH dC dI o r cI cJ S s s.heap := ⟨hP, hK⟩
  have hm := mA_of hts hw
  have hl := lv_entry ([.ref o, .int x1, .int x2, .int x3, .int x4]) (n := 27) (Nat.le_of_ble_eq_true rfl)
  rw [lg_entry_eq]
  generalize (lg_sl ([.ref o, .int x1, .int x2, .int x3, .int x4]) ++ List.replicate (27 - (lg_sl ([.ref o, .int x1, .int x2, .int x3, .int x4])).length) Slot.unset).toArray = ls at hl ⊢
  have hl : lv_has ls 27 [(0, .ref o), (1, .int x1), (2, .int x2), (3, .int x3), (4, .int x4)] := hl
  have hf : f_X7_interval S x1 x2 x3 x4 = (f_X7_interval_24 x1 S x2 x3 x4) := rfl
  refine lv_iload_n hx hb dX7_interval_0 rfl (lv_at hl 1 rfl) ?_
  refine W_cut (α := Int32) (pcJ := 50) (nL := 27) (fun v => f_X7_interval S x1 x2 x3 x4 = (f_X7_interval_18 v S x1 x2 x3 x4) ∧ (0 < v ∨ (mPair S x1 x2 ∧ mPair S x1 x3))) (fun v => [.int v]) (fun v => [(0, .ref o), (1, .int x1), (2, .int x2), (3, .int x3), (4, .int x4)]) (fun w_1 ls hf hl => ?_) (fun K_50 => ?_)
  · obtain ⟨hf, hI_50⟩ : f_X7_interval S x1 x2 x3 x4 = (f_X7_interval_18 w_1 S x1 x2 x3 x4) ∧ (0 < w_1 ∨ (mPair S x1 x2 ∧ mPair S x1 x3)) := hf
    have hf : f_X7_interval S x1 x2 x3 x4 = (f_X7_interval_18 w_1 S x1 x2 x3 x4) := hf
    have hl : lv_has ls 27 [(0, .ref o), (1, .int x1), (2, .int x2), (3, .int x3), (4, .int x4)] := hl
    refine lv_istore (lv' := [(5, .int w_1), (0, .ref o), (1, .int x1), (2, .int x2), (3, .int x3), (4, .int x4)]) hx hb dX7_interval_50 hl (by decide) rfl (fun ls hl => ?_)
    refine lv_iload hx hb dX7_interval_52 (lv_at hl 0 rfl) ?_
    refine lv_if_le (tgt := 64) hx hb dX7_interval_54 (by decide) (fun c_54 => ?_) (fun c_54 => ?_)
    · have hf : f_X7_interval S x1 x2 x3 x4 = (f_X7_interval_17 (mset_s S (0 : Int32)) x1 x2 x3 x4) := hf.trans (if_pos c_54)
      have hQ2 : mPair S x1 x2 := (by rcases hI_50 with h | h; exact absurd c_54 (pos_nle h); exact h.1)
      have hQ3 : mPair S x1 x3 := (by rcases hI_50 with h | h; exact absurd c_54 (pos_nle h); exact h.2)
      refine lv_aload_n hx hb dX7_interval_64 rfl (lv_at hl 1 rfl) ?_
      refine lv_iconst (v := 0) hx hb dX7_interval_65 (by decide) ?_
      refine va_put (D := (dC, dI)) (ci := 5) (v := .int (0 : Int32)) (ty := .int) (C := RX7) (T := TX7) (N := 18) hx hb hts zin_X7 tyX7 tyX7_ok nmX7 hown hK hP hD hS 0 rfl rfl 17 (by decide) (hts _ (zin__r4 (.fieldLink RX7 75 "ReckonBenchModel" "status" "I") (List.mem_of_getElem? (i := 13) rfl))) (fun _ h9 => h9) rfl (by decide +kernel) rfl rfl (Nat.le_of_ble_eq_true rfl) dX7_interval_66 (fun H locs hP hD hS => ?_)
      obtain ⟨S_2, e_S_2⟩ : ∃ z : MSt, z = (mset_s S (0 : Int32)) := ⟨_, rfl⟩
      have hP : va_P (dC, dI) vwCl (mWs o r cI cJ S_2) H := by rw [e_S_2]; exact hP
      have hD : va_D A (mWs o r cI cJ S_2) := by rw [e_S_2]; exact hD
      have hw : mH dC dI o r cI cJ S_2 s H := ⟨hP, hK⟩
      have hm := mA_of hts hw
      have hI : mInv S_2 := by rw [e_S_2]; exact hI
      have hQ2 : mPair S_2 x1 x2 := by rw [e_S_2]; exact hQ2
      have hQ3 : mPair S_2 x1 x3 := by rw [e_S_2]; exact hQ3
      have hf : f_X7_interval S x1 x2 x3 x4 = (f_X7_interval_17 S_2 x1 x2 x3 x4) := hf.trans (congrArg (fun z => (f_X7_interval_17 z x1 x2 x3 x4)) e_S_2.symm)
      refine lv_aload_n hx hb dX7_interval_69 rfl (lv_at hl 1 rfl) ?_
      refine va_get (D := (dC, dI)) (ci := 5) (v := .ref (r 8)) (C := RX7) (T := TX7) (N := 18) hx hb hts zin_X7 hown hK hP 0 rfl rfl 8 (by decide) (hts _ (zin__r3 (.fieldLink RX7 51 "ReckonBenchModel" "kinds" "[I") (List.mem_of_getElem? (i := 2) rfl))) (fun _ h9 => h9) rfl dX7_interval_70 ?_
      refine lv_iload_n hx hb dX7_interval_73 rfl (lv_at hl 2 rfl) ?_
      refine va_iald (f := fun j => nI (mk S_2 j)) hx hb hK hP 9 0 rfl rfl (mRow.in2 hI (mPair.row hQ2)) dX7_interval_74 ?_
      refine lv_istore (lv' := [(6, .int (nI (mk S_2 x1.toNatClampNeg))), (5, .int w_1), (0, .ref o), (1, .int x1), (2, .int x2), (3, .int x3), (4, .int x4)]) hx hb dX7_interval_75 hl (by decide) rfl (fun ls hl => ?_)
      refine lv_aload_n hx hb dX7_interval_77 rfl (lv_at hl 2 rfl) ?_
      refine lv_iload_n hx hb dX7_interval_78 rfl (lv_at hl 3 rfl) ?_
      refine lv_iconst (v := 2) hx hb dX7_interval_79 (by decide) ?_
      refine lv_iload_n hx hb dX7_interval_80 rfl (lv_at hl 4 rfl) ?_
      refine lv_imul hx hb dX7_interval_81 ?_
      refine vp_callSl (va_Run.run (va_runV (As := [.int x1, .int ((2 : Int32) * x2)]) (rest := []) ⟨hx, hb, hml, hown, hts⟩ (c_X7_at l dC dI o r cI cJ S_2 x1 ((2 : Int32) * x2) (mRow.in0 hI (mPl.row (mPair.lo hQ2))) (mPl.at hI (mPair.lo hQ2))) (cwV 2 hts (gV iX7_at (zin__r11 (.methodLink RX7 155 yX7_at) (List.mem_of_getElem? (i := 2) rfl))) rfl rfl rfl (by decide +kernel) ⟨Nat.le_of_ble_eq_true rfl, Nat.le_of_ble_eq_true rfl⟩) ⟨fun a U g mk q => ⟨q.1, mW_bl q.2⟩, (mW_rv hw), fun U hU hW => ⟨rfl, mW_mv hw hU hW⟩⟩ rfl rfl hl.1 rfl (lv_room (Nat.le_of_ble_eq_true rfl)) dX7_interval_82 ⟨Nat.zero_le _, Nat.zero_le _⟩)) (fun r_82 hr_82 => ?_)
      subst hr_82
      refine lv_topl (fun v7_3 e_v7_3 => ?_)
      have hf : f_X7_interval S x1 x2 x3 x4 = (f_X7_interval_16 S_2 x1 x2 x3 x4 (f_X7_at S_2 x1 ((2 : Int32) * x3)) v7_3 (f_X7_at S_2 x1 (((2 : Int32) * x2) + (1 : Int32))) (f_X7_at S_2 x1 (((2 : Int32) * x3) + (1 : Int32)))) := hf.trans (congrArg (fun z => (f_X7_interval_16 S_2 x1 x2 x3 x4 (f_X7_at S_2 x1 ((2 : Int32) * x3)) z (f_X7_at S_2 x1 (((2 : Int32) * x2) + (1 : Int32))) (f_X7_at S_2 x1 (((2 : Int32) * x3) + (1 : Int32))))) e_v7_3.symm)
      refine lv_lstore (lv' := [(7, .long v7_3), (6, .int (nI (mk S_2 x1.toNatClampNeg))), (5, .int w_1), (0, .ref o), (1, .int x1), (2, .int x2), (3, .int x3), (4, .int x4)]) hx hb dX7_interval_85 hl (by decide) rfl (fun ls hl => ?_)
      refine lv_aload_n hx hb dX7_interval_87 rfl (lv_at hl 3 rfl) ?_
      refine lv_iload_n hx hb dX7_interval_88 rfl (lv_at hl 4 rfl) ?_
      refine lv_iconst (v := 2) hx hb dX7_interval_89 (by decide) ?_
      refine lv_iload_n hx hb dX7_interval_90 rfl (lv_at hl 5 rfl) ?_
      refine lv_imul hx hb dX7_interval_91 ?_
      refine lv_iconst (v := 1) hx hb dX7_interval_92 (by decide) ?_
      refine lv_iadd hx hb dX7_interval_93 ?_
      refine vp_callSl (va_Run.run (va_runV (As := [.int x1, .int (((2 : Int32) * x2) + (1 : Int32))]) (rest := []) ⟨hx, hb, hml, hown, hts⟩ (c_X7_at l dC dI o r cI cJ S_2 x1 (((2 : Int32) * x2) + (1 : Int32)) (mRow.in0 hI (mPl.row (mPair.hi hQ2))) (mPl.at hI (mPair.hi hQ2))) (cwV 2 hts (gV iX7_at (zin__r11 (.methodLink RX7 155 yX7_at) (List.mem_of_getElem? (i := 2) rfl))) rfl rfl rfl (by decide +kernel) ⟨Nat.le_of_ble_eq_true rfl, Nat.le_of_ble_eq_true rfl⟩) ⟨fun a U g mk q => ⟨q.1, mW_bl q.2⟩, (mW_rv hw), fun U hU hW => ⟨rfl, mW_mv hw hU hW⟩⟩ rfl rfl hl.1 rfl (lv_room (Nat.le_of_ble_eq_true rfl)) dX7_interval_94 ⟨Nat.zero_le _, Nat.zero_le _⟩)) (fun r_94 hr_94 => ?_)
      subst hr_94
      refine lv_topl (fun v9_4 e_v9_4 => ?_)
      have hf : f_X7_interval S x1 x2 x3 x4 = (f_X7_interval_16 S_2 x1 x2 x3 x4 (f_X7_at S_2 x1 ((2 : Int32) * x3)) v7_3 v9_4 (f_X7_at S_2 x1 (((2 : Int32) * x3) + (1 : Int32)))) := hf.trans (congrArg (fun z => (f_X7_interval_16 S_2 x1 x2 x3 x4 (f_X7_at S_2 x1 ((2 : Int32) * x3)) v7_3 z (f_X7_at S_2 x1 (((2 : Int32) * x3) + (1 : Int32))))) e_v9_4.symm)
      refine lv_lstore (lv' := [(9, .long v9_4), (7, .long v7_3), (6, .int (nI (mk S_2 x1.toNatClampNeg))), (5, .int w_1), (0, .ref o), (1, .int x1), (2, .int x2), (3, .int x3), (4, .int x4)]) hx hb dX7_interval_97 hl (by decide) rfl (fun ls hl => ?_)
      refine lv_aload_n hx hb dX7_interval_99 rfl (lv_at hl 4 rfl) ?_
      refine lv_iload_n hx hb dX7_interval_100 rfl (lv_at hl 5 rfl) ?_
      refine lv_iconst (v := 2) hx hb dX7_interval_101 (by decide) ?_
      refine lv_iload_n hx hb dX7_interval_102 rfl (lv_at hl 7 rfl) ?_
      refine lv_imul hx hb dX7_interval_103 ?_
      refine vp_callSl (va_Run.run (va_runV (As := [.int x1, .int ((2 : Int32) * x3)]) (rest := []) ⟨hx, hb, hml, hown, hts⟩ (c_X7_at l dC dI o r cI cJ S_2 x1 ((2 : Int32) * x3) (mRow.in0 hI (mPl.row (mPair.lo hQ3))) (mPl.at hI (mPair.lo hQ3))) (cwV 2 hts (gV iX7_at (zin__r11 (.methodLink RX7 155 yX7_at) (List.mem_of_getElem? (i := 2) rfl))) rfl rfl rfl (by decide +kernel) ⟨Nat.le_of_ble_eq_true rfl, Nat.le_of_ble_eq_true rfl⟩) ⟨fun a U g mk q => ⟨q.1, mW_bl q.2⟩, (mW_rv hw), fun U hU hW => ⟨rfl, mW_mv hw hU hW⟩⟩ rfl rfl hl.1 rfl (lv_room (Nat.le_of_ble_eq_true rfl)) dX7_interval_104 ⟨Nat.zero_le _, Nat.zero_le _⟩)) (fun r_104 hr_104 => ?_)
      subst hr_104
      refine lv_topl (fun v11_5 e_v11_5 => ?_)
      have hf : f_X7_interval S x1 x2 x3 x4 = (f_X7_interval_16 S_2 x1 x2 x3 x4 v11_5 v7_3 v9_4 (f_X7_at S_2 x1 (((2 : Int32) * x3) + (1 : Int32)))) := hf.trans (congrArg (fun z => (f_X7_interval_16 S_2 x1 x2 x3 x4 z v7_3 v9_4 (f_X7_at S_2 x1 (((2 : Int32) * x3) + (1 : Int32))))) e_v11_5.symm)
      refine lv_lstore (lv' := [(11, .long v11_5), (9, .long v9_4), (7, .long v7_3), (6, .int (nI (mk S_2 x1.toNatClampNeg))), (5, .int w_1), (0, .ref o), (1, .int x1), (2, .int x2), (3, .int x3), (4, .int x4)]) hx hb dX7_interval_107 hl (by decide) rfl (fun ls hl => ?_)
      refine lv_aload_n hx hb dX7_interval_109 rfl (lv_at hl 5 rfl) ?_
      refine lv_iload_n hx hb dX7_interval_110 rfl (lv_at hl 6 rfl) ?_
      refine lv_iconst (v := 2) hx hb dX7_interval_111 (by decide) ?_
      refine lv_iload_n hx hb dX7_interval_112 rfl (lv_at hl 8 rfl) ?_
      refine lv_imul hx hb dX7_interval_113 ?_
      refine lv_iconst (v := 1) hx hb dX7_interval_114 (by decide) ?_
      refine lv_iadd hx hb dX7_interval_115 ?_
      refine vp_callSl (va_Run.run (va_runV (As := [.int x1, .int (((2 : Int32) * x3) + (1 : Int32))]) (rest := []) ⟨hx, hb, hml, hown, hts⟩ (c_X7_at l dC dI o r cI cJ S_2 x1 (((2 : Int32) * x3) + (1 : Int32)) (mRow.in0 hI (mPl.row (mPair.hi hQ3))) (mPl.at hI (mPair.hi hQ3))) (cwV 2 hts (gV iX7_at (zin__r11 (.methodLink RX7 155 yX7_at) (List.mem_of_getElem? (i := 2) rfl))) rfl rfl rfl (by decide +kernel) ⟨Nat.le_of_ble_eq_true rfl, Nat.le_of_ble_eq_true rfl⟩) ⟨fun a U g mk q => ⟨q.1, mW_bl q.2⟩, (mW_rv hw), fun U hU hW => ⟨rfl, mW_mv hw hU hW⟩⟩ rfl rfl hl.1 rfl (lv_room (Nat.le_of_ble_eq_true rfl)) dX7_interval_116 ⟨Nat.zero_le _, Nat.zero_le _⟩)) (fun r_116 hr_116 => ?_)
      subst hr_116
      refine lv_topl (fun v13_6 e_v13_6 => ?_)
      have hf : f_X7_interval S x1 x2 x3 x4 = (f_X7_interval_16 S_2 x1 x2 x3 x4 v11_5 v7_3 v9_4 v13_6) := hf.trans (congrArg (fun z => (f_X7_interval_16 S_2 x1 x2 x3 x4 v11_5 v7_3 v9_4 z)) e_v13_6.symm)
      refine lv_lstore (lv' := [(13, .long v13_6), (11, .long v11_5), (9, .long v9_4), (7, .long v7_3), (6, .int (nI (mk S_2 x1.toNatClampNeg))), (5, .int w_1), (0, .ref o), (1, .int x1), (2, .int x2), (3, .int x3), (4, .int x4)]) hx hb dX7_interval_119 hl (by decide) rfl (fun ls hl => ?_)
      have hcA : kcn (mk S_2 x1.toNatClampNeg) v7_3 := low_at hI hQ2 e_v7_3
      have hcB : kcn (mk S_2 x1.toNatClampNeg) v9_4 := high_at hI hQ2 e_v9_4
      have hcC : kcn (mk S_2 x1.toNatClampNeg) v11_5 := low_at hI hQ3 e_v11_5
      have hcD : kcn (mk S_2 x1.toNatClampNeg) v13_6 := high_at hI hQ3 e_v13_6
      refine lv_aload_n hx hb dX7_interval_121 rfl (lv_at hl 6 rfl) ?_
      refine lv_iload_n hx hb dX7_interval_122 rfl (lv_at hl 7 rfl) ?_
      refine lv_iload_n hx hb dX7_interval_123 rfl (lv_at hl 8 rfl) ?_
      refine vp_callSi (va_Run.run (va_runV (As := [.int x1, .int x2]) (rest := []) ⟨hx, hb, hml, hown, hts⟩ (c_X7_isInterval l dC dI o r cI cJ S_2 x1 x2 hI hQ2) (cwV 2 hts (gV iX7_isInterval (zin__r30 (.methodLink RX7 225 yX7_isInterval) (List.mem_of_getElem? (i := 3) rfl))) rfl rfl rfl (by decide +kernel) ⟨Nat.le_of_ble_eq_true rfl, Nat.le_of_ble_eq_true rfl⟩) ⟨fun a U g mk q => ⟨q.1, mW_bl q.2⟩, (mW_rv hw), fun U hU hW => ⟨rfl, mW_mv hw hU hW⟩⟩ rfl rfl hl.1 rfl (lv_room (Nat.le_of_ble_eq_true rfl)) dX7_interval_124 ⟨Nat.zero_le _, Nat.zero_le _⟩)) (fun r_124 hr_124 => ?_)
      subst hr_124
      refine W_cut (α := Unit) (pcJ := 171) (nL := 27) (fun v => f_X7_interval S x1 x2 x3 x4 = (f_X7_interval_1 S_2 x1 x2)) (fun v => []) (fun v => [(0, .ref o), (1, .int x1), (2, .int x2), (6, .int (nI (mk S_2 x1.toNatClampNeg)))]) (fun v ls hf hl => ?_) (fun K_171 => ?_)
      · have hf : f_X7_interval S x1 x2 x3 x4 = ((1 : Int32), (f_X7_bounds S_2 x1 x2 (f_X7_signed (mk S_2 x1.toNatClampNeg) (kinf (mk S_2 x1.toNatClampNeg)) (1 : Int32)) (kinf (mk S_2 x1.toNatClampNeg)))) := hf
        have hl : lv_has ls 27 [(0, .ref o), (1, .int x1), (2, .int x2), (6, .int (nI (mk S_2 x1.toNatClampNeg)))] := hl
        refine lv_aload_n hx hb dX7_interval_171 rfl (lv_at hl 0 rfl) ?_
        refine lv_iload_n hx hb dX7_interval_172 rfl (lv_at hl 1 rfl) ?_
        refine lv_iload_n hx hb dX7_interval_173 rfl (lv_at hl 2 rfl) ?_
        refine lv_aload_n hx hb dX7_interval_174 rfl (lv_at hl 0 rfl) ?_
        refine lv_iload hx hb dX7_interval_175 (lv_at hl 3 rfl) ?_
        refine lv_aload_n hx hb dX7_interval_177 rfl (lv_at hl 0 rfl) ?_
        refine va_get (D := (dC, dI)) (ci := 5) (v := .ref (r 4)) (C := RX7) (T := TX7) (N := 18) hx hb hts zin_X7 hown hK hP 0 rfl rfl 4 (by decide) (hts _ (zin__r2 (.fieldLink RX7 31 "ReckonBenchModel" "INFINITE" "[J") (List.mem_of_getElem? (i := 18) rfl))) (fun _ h9 => h9) rfl dX7_interval_178 ?_
        refine lv_iload hx hb dX7_interval_181 (lv_at hl 3 rfl) ?_
        refine va_lald (f := kinf) hx hb hK hP 5 1 rfl rfl (kin (mRow.k hI (mPair.row hQ2))) dX7_interval_183 ?_
        rw [kcl (mRow.k hI (mPair.row hQ2))]
        refine lv_iconst (v := 1) hx hb dX7_interval_184 (by decide) ?_
        refine vp_callSl (va_Run.run (va_runV (As := [.int (nI (mk S_2 x1.toNatClampNeg)), .long (kinf (mk S_2 x1.toNatClampNeg)), .int (1 : Int32)]) (rest := [.int x2, .int x1, .ref o]) ⟨hx, hb, hml, hown, hts⟩ (c_X7_signed l o r (mk S_2 x1.toNatClampNeg) (mRow.k hI (mPair.row hQ2)) (kinf (mk S_2 x1.toNatClampNeg)) (1 : Int32)) (cwV 3 hts (gV iX7_signed (zin__r10 (.methodLink RX7 111 yX7_signed) (List.mem_of_getElem? (i := 5) rfl))) rfl rfl rfl (by decide +kernel) ⟨Nat.le_of_ble_eq_true rfl, Nat.le_of_ble_eq_true rfl⟩) ⟨fun a U g mk q => ⟨q.1, mU_bl q.2⟩, (mW_rv hw), fun U hU hW => ⟨rfl, mU_mvH hm hU hW⟩⟩ rfl rfl hl.1 rfl (lv_room (Nat.le_of_ble_eq_true rfl)) dX7_interval_185 ⟨Nat.zero_le _, Nat.zero_le _⟩)) (fun r_185 hr_185 => ?_)
        subst hr_185
        refine lv_aload_n hx hb dX7_interval_188 rfl (lv_at hl 0 rfl) ?_
        refine va_get (D := (dC, dI)) (ci := 5) (v := .ref (r 4)) (C := RX7) (T := TX7) (N := 18) hx hb hts zin_X7 hown hK hP 0 rfl rfl 4 (by decide) (hts _ (zin__r2 (.fieldLink RX7 31 "ReckonBenchModel" "INFINITE" "[J") (List.mem_of_getElem? (i := 18) rfl))) (fun _ h9 => h9) rfl dX7_interval_189 ?_
        refine lv_iload hx hb dX7_interval_192 (lv_at hl 3 rfl) ?_
        refine va_lald (f := kinf) hx hb hK hP 5 1 rfl rfl (kin (mRow.k hI (mPair.row hQ2))) dX7_interval_194 ?_
        rw [kcl (mRow.k hI (mPair.row hQ2))]
        have hFc := va_free (wc := mWs o r cI cJ S_2) hD hS hA [0, 1, 2, 3, 4, 5, 6, 7, 8, 9, 10, 11, 12, 13, 14, 15, 16] rfl
        refine va_callv (va_runV (As := [.int x1, .int x2, .long (f_X7_signed (mk S_2 x1.toNatClampNeg) (kinf (mk S_2 x1.toNatClampNeg)) (1 : Int32)), .long (kinf (mk S_2 x1.toNatClampNeg))]) (rest := []) ⟨hx, hb, hml, hown, hts⟩ (c_X7_bounds l dC dI o r cI cJ H.size S_2 x1 x2 (f_X7_signed (mk S_2 x1.toNatClampNeg) (kinf (mk S_2 x1.toNatClampNeg)) (1 : Int32)) (kinf (mk S_2 x1.toNatClampNeg)) hI hQ2) (cwV 4 hts (gV iX7_bounds (zin__r30 (.methodLink RX7 228 yX7_bounds) (List.mem_of_getElem? (i := 7) rfl))) rfl rfl rfl (by decide +kernel) ⟨Nat.le_of_ble_eq_true rfl, Nat.le_of_ble_eq_true rfl⟩) ⟨fun a U g mk q => ⟨q.1, mB_bl q.2⟩, mW_rv hw, fun U hU hW => ⟨rfl, mB_mv hw hD hU hW⟩⟩ rfl rfl hl.1 rfl (lv_room (Nat.le_of_ble_eq_true rfl)) dX7_interval_195 ⟨Nat.zero_le _, Nat.zero_le _⟩) hS (fun q _ h => hFc q h) hFc (fun S_7 t H1 locs ht hvm hw1 hB hz1 hk1 hS => ?_)
        obtain ⟨hP, -, hD1⟩ := hB
        rw [ht] at hP
        have hD := hD1.weaken (fun k q _ h => hFc q.1 h)
        generalize H1 = H at hP hS ⊢
        have hw : mH dC dI o r cI cJ S_7 s H := ⟨hP, hK⟩
        have hm := mA_of hts hw
        have hf : f_X7_interval S x1 x2 x3 x4 = ((1 : Int32), S_7) := hf.trans (congrArg (fun z => ((1 : Int32), z)) hw1.symm)
        refine lv_iconst (v := 1) hx hb dX7_interval_198 (by decide) ?_
        exact W.iret hx hb hr (fun t ht hW => ⟨⟨_, S_7, rfl, hf.symm, by rw [ht]; exact hP, va_K.moved hW.alike hK, hD⟩, hS.F ht⟩) hS.2.2 dX7_interval_199
      refine lv_if_eq (tgt := 171) hx hb dX7_interval_127 (by decide) (fun c_127 => ?_) (fun c_127 => ?_)
      · have hf : f_X7_interval S x1 x2 x3 x4 = (f_X7_interval_1 S_2 x1 x2) := hf.trans (if_pos c_127)
        exact K_171 () ls hf (lv_sub hl [6, 7, 8, 4] rfl)
      · have hf : f_X7_interval S x1 x2 x3 x4 = (f_X7_interval_15 S_2 x1 x3 x2 x4 v11_5 v7_3 v9_4 v13_6) := hf.trans (if_neg c_127)
        refine lv_aload_n hx hb dX7_interval_130 rfl (lv_at hl 6 rfl) ?_
        refine lv_iload_n hx hb dX7_interval_131 rfl (lv_at hl 7 rfl) ?_
        refine lv_iload_n hx hb dX7_interval_132 rfl (lv_at hl 9 rfl) ?_
        refine vp_callSi (va_Run.run (va_runV (As := [.int x1, .int x3]) (rest := []) ⟨hx, hb, hml, hown, hts⟩ (c_X7_isInterval l dC dI o r cI cJ S_2 x1 x3 hI hQ3) (cwV 2 hts (gV iX7_isInterval (zin__r30 (.methodLink RX7 225 yX7_isInterval) (List.mem_of_getElem? (i := 3) rfl))) rfl rfl rfl (by decide +kernel) ⟨Nat.le_of_ble_eq_true rfl, Nat.le_of_ble_eq_true rfl⟩) ⟨fun a U g mk q => ⟨q.1, mW_bl q.2⟩, (mW_rv hw), fun U hU hW => ⟨rfl, mW_mv hw hU hW⟩⟩ rfl rfl hl.1 rfl (lv_room (Nat.le_of_ble_eq_true rfl)) dX7_interval_133 ⟨Nat.zero_le _, Nat.zero_le _⟩)) (fun r_133 hr_133 => ?_)
        subst hr_133
        refine lv_if_eq (tgt := 171) hx hb dX7_interval_136 (by decide) (fun c_136 => ?_) (fun c_136 => ?_)
        · have hf : f_X7_interval S x1 x2 x3 x4 = (f_X7_interval_1 S_2 x1 x2) := hf.trans (if_pos c_136)
          exact K_171 () ls hf (lv_sub hl [6, 7, 8, 4] rfl)
        · have hf : f_X7_interval S x1 x2 x3 x4 = (f_X7_interval_14 x4 S_2 x1 v11_5 x2 v7_3 v9_4 v13_6) := hf.trans (if_neg c_136)
          refine lv_iload hx hb dX7_interval_139 (lv_at hl 10 rfl) ?_
          refine lv_iconst (v := 3) hx hb dX7_interval_141 (by decide) ?_
          refine W_cut (α := Unit) (pcJ := 200) (nL := 27) (fun v => f_X7_interval S x1 x2 x3 x4 = (f_X7_interval_11 x4 S_2 x1 x2 v7_3 v11_5 v9_4 v13_6)) (fun v => []) (fun v => [(0, .ref o), (1, .int x1), (2, .int x2), (4, .int x4), (6, .int (nI (mk S_2 x1.toNatClampNeg))), (7, .long v7_3), (9, .long v9_4), (11, .long v11_5), (13, .long v13_6)]) (fun v ls hf hl => ?_) (fun K_200 => ?_)
          · have hf : f_X7_interval S x1 x2 x3 x4 = (f_X7_interval_11 x4 S_2 x1 x2 v7_3 v11_5 v9_4 v13_6) := hf
            have hl : lv_has ls 27 [(0, .ref o), (1, .int x1), (2, .int x2), (4, .int x4), (6, .int (nI (mk S_2 x1.toNatClampNeg))), (7, .long v7_3), (9, .long v9_4), (11, .long v11_5), (13, .long v13_6)] := hl
            refine lv_iload hx hb dX7_interval_200 (lv_at hl 3 rfl) ?_
            refine lv_iconst (v := 4) hx hb dX7_interval_202 (by decide) ?_
            refine lv_icmp_ne (tgt := 234) hx hb dX7_interval_203 (by decide) (fun c_203 => ?_) (fun c_203 => ?_)
            · have hf : f_X7_interval S x1 x2 x3 x4 = (f_X7_interval_10 x4 S_2 x1 x2 v7_3 v11_5 v9_4 v13_6) := hf.trans (if_neg c_203)
              refine lv_iload hx hb dX7_interval_234 (lv_at hl 3 rfl) ?_
              refine lv_iconst (v := 5) hx hb dX7_interval_236 (by decide) ?_
              refine lv_icmp_ne (tgt := 267) hx hb dX7_interval_237 (by decide) (fun c_237 => ?_) (fun c_237 => ?_)
              · have hf : f_X7_interval S x1 x2 x3 x4 = (f_X7_interval_8 x4 S_2 x1 x2 v7_3 v11_5 v9_4 v13_6) := hf.trans (if_neg c_237)
                refine lv_aload_n hx hb dX7_interval_267 rfl (lv_at hl 0 rfl) ?_
                refine lv_iload hx hb dX7_interval_268 (lv_at hl 4 rfl) ?_
                refine lv_lload hx hb dX7_interval_270 (lv_at hl 5 rfl) ?_
                refine lv_iload hx hb dX7_interval_272 (lv_at hl 3 rfl) ?_
                refine W_cut (α := Int64) (pcJ := 290) (nL := 27) (fun v => f_X7_interval S x1 x2 x3 x4 = (f_X7_interval_7 x4 S_2 x1 x2 v7_3 v v9_4 v13_6 v11_5) ∧ (kcn (mk S_2 x1.toNatClampNeg) v)) (fun v => [.long v, .long v7_3, .int (nI (mk S_2 x1.toNatClampNeg)), .ref o]) (fun v => [(0, .ref o), (1, .int x1), (2, .int x2), (4, .int x4), (6, .int (nI (mk S_2 x1.toNatClampNeg))), (7, .long v7_3), (9, .long v9_4), (11, .long v11_5), (13, .long v13_6)]) (fun w_8 ls hf hl => ?_) (fun K_290 => ?_)
                · obtain ⟨hf, hI_290⟩ : f_X7_interval S x1 x2 x3 x4 = (f_X7_interval_7 x4 S_2 x1 x2 v7_3 w_8 v9_4 v13_6 v11_5) ∧ (kcn (mk S_2 x1.toNatClampNeg) w_8) := hf
                  have hf : f_X7_interval S x1 x2 x3 x4 = (f_X7_interval_6 x4 S_2 x1 x2 (f_X7_plus (mk S_2 x1.toNatClampNeg) v7_3 w_8) v9_4 v13_6 v7_3 v11_5) := hf
                  have hl : lv_has ls 27 [(0, .ref o), (1, .int x1), (2, .int x2), (4, .int x4), (6, .int (nI (mk S_2 x1.toNatClampNeg))), (7, .long v7_3), (9, .long v9_4), (11, .long v11_5), (13, .long v13_6)] := hl
                  refine vp_callSl (va_Run.run (va_runV (As := [.int (nI (mk S_2 x1.toNatClampNeg)), .long v7_3, .long w_8]) (rest := []) ⟨hx, hb, hml, hown, hts⟩ (c_X7_plus l o r (mk S_2 x1.toNatClampNeg) (mRow.k hI (mPair.row hQ2)) v7_3 w_8 hcA hI_290) (cwV 3 hts (gV iX7_plus (zin__r21 (.methodLink RX7 197 yX7_plus) (List.mem_of_getElem? (i := 2) rfl))) rfl rfl rfl (by decide +kernel) ⟨Nat.le_of_ble_eq_true rfl, Nat.le_of_ble_eq_true rfl⟩) ⟨fun a U g mk q => ⟨q.1, mU_bl q.2⟩, (mW_rv hw), fun U hU hW => ⟨rfl, mU_mvH hm hU hW⟩⟩ rfl rfl hl.1 rfl (lv_room (Nat.le_of_ble_eq_true rfl)) dX7_interval_290 ⟨Nat.zero_le _, Nat.zero_le _⟩)) (fun r_290 hr_290 => ?_)
                  subst hr_290
                  refine lv_topl (fun v15_9 e_v15_9 => ?_)
                  have hf : f_X7_interval S x1 x2 x3 x4 = (f_X7_interval_6 x4 S_2 x1 x2 v15_9 v9_4 v13_6 v7_3 v11_5) := hf.trans (congrArg (fun z => (f_X7_interval_6 x4 S_2 x1 x2 z v9_4 v13_6 v7_3 v11_5)) e_v15_9.symm)
                  refine lv_lstore (lv' := [(15, .long v15_9), (0, .ref o), (1, .int x1), (2, .int x2), (4, .int x4), (6, .int (nI (mk S_2 x1.toNatClampNeg))), (7, .long v7_3), (9, .long v9_4), (11, .long v11_5), (13, .long v13_6)]) hx hb dX7_interval_293 hl (by decide) rfl (fun ls hl => ?_)
                  refine lv_aload_n hx hb dX7_interval_295 rfl (lv_at hl 1 rfl) ?_
                  refine lv_iload hx hb dX7_interval_296 (lv_at hl 5 rfl) ?_
                  refine lv_lload hx hb dX7_interval_298 (lv_at hl 7 rfl) ?_
                  refine lv_iload hx hb dX7_interval_300 (lv_at hl 4 rfl) ?_
                  refine W_cut (α := Int64) (pcJ := 318) (nL := 27) (fun v => f_X7_interval S x1 x2 x3 x4 = (f_X7_interval_5 x4 S_2 x1 x2 v15_9 v9_4 v v7_3 v11_5 v13_6) ∧ (kcn (mk S_2 x1.toNatClampNeg) v)) (fun v => [.long v, .long v9_4, .int (nI (mk S_2 x1.toNatClampNeg)), .ref o]) (fun v => [(0, .ref o), (1, .int x1), (2, .int x2), (4, .int x4), (6, .int (nI (mk S_2 x1.toNatClampNeg))), (7, .long v7_3), (9, .long v9_4), (11, .long v11_5), (13, .long v13_6), (15, .long v15_9)]) (fun w_10 ls hf hl => ?_) (fun K_318 => ?_)
                  · obtain ⟨hf, hI_318⟩ : f_X7_interval S x1 x2 x3 x4 = (f_X7_interval_5 x4 S_2 x1 x2 v15_9 v9_4 w_10 v7_3 v11_5 v13_6) ∧ (kcn (mk S_2 x1.toNatClampNeg) w_10) := hf
                    have hf : f_X7_interval S x1 x2 x3 x4 = (f_X7_interval_4 x4 S_2 x1 x2 v15_9 (f_X7_plus (mk S_2 x1.toNatClampNeg) v9_4 w_10) v7_3 v11_5 v13_6 v9_4) := hf
                    have hl : lv_has ls 27 [(0, .ref o), (1, .int x1), (2, .int x2), (4, .int x4), (6, .int (nI (mk S_2 x1.toNatClampNeg))), (7, .long v7_3), (9, .long v9_4), (11, .long v11_5), (13, .long v13_6), (15, .long v15_9)] := hl
                    refine vp_callSl (va_Run.run (va_runV (As := [.int (nI (mk S_2 x1.toNatClampNeg)), .long v9_4, .long w_10]) (rest := []) ⟨hx, hb, hml, hown, hts⟩ (c_X7_plus l o r (mk S_2 x1.toNatClampNeg) (mRow.k hI (mPair.row hQ2)) v9_4 w_10 hcB hI_318) (cwV 3 hts (gV iX7_plus (zin__r21 (.methodLink RX7 197 yX7_plus) (List.mem_of_getElem? (i := 2) rfl))) rfl rfl rfl (by decide +kernel) ⟨Nat.le_of_ble_eq_true rfl, Nat.le_of_ble_eq_true rfl⟩) ⟨fun a U g mk q => ⟨q.1, mU_bl q.2⟩, (mW_rv hw), fun U hU hW => ⟨rfl, mU_mvH hm hU hW⟩⟩ rfl rfl hl.1 rfl (lv_room (Nat.le_of_ble_eq_true rfl)) dX7_interval_318 ⟨Nat.zero_le _, Nat.zero_le _⟩)) (fun r_318 hr_318 => ?_)
                    subst hr_318
                    refine lv_topl (fun v17_11 e_v17_11 => ?_)
                    have hf : f_X7_interval S x1 x2 x3 x4 = (f_X7_interval_4 x4 S_2 x1 x2 v15_9 v17_11 v7_3 v11_5 v13_6 v9_4) := hf.trans (congrArg (fun z => (f_X7_interval_4 x4 S_2 x1 x2 v15_9 z v7_3 v11_5 v13_6 v9_4)) e_v17_11.symm)
                    refine lv_lstore (lv' := [(17, .long v17_11), (0, .ref o), (1, .int x1), (2, .int x2), (4, .int x4), (6, .int (nI (mk S_2 x1.toNatClampNeg))), (7, .long v7_3), (9, .long v9_4), (11, .long v11_5), (13, .long v13_6), (15, .long v15_9)]) hx hb dX7_interval_321 hl (by decide) rfl (fun ls hl => ?_)
                    refine lv_iload hx hb dX7_interval_323 (lv_at hl 4 rfl) ?_
                    refine lv_iconst (v := 1) hx hb dX7_interval_325 (by decide) ?_
                    refine W_cut (α := Int64 × Int64) (pcJ := 441) (nL := 27) (fun v => f_X7_interval S x1 x2 x3 x4 = (f_X7_interval_2 S_2 x1 x2 v.1 v.2)) (fun v => []) (fun v => [(0, .ref o), (1, .int x1), (2, .int x2), (6, .int (nI (mk S_2 x1.toNatClampNeg))), (15, .long v.1), (17, .long v.2)]) (fun v ls hf hl => ?_) (fun K_441 => ?_)
                    · obtain ⟨v15_12, v17_13⟩ := v
                      have hf : f_X7_interval S x1 x2 x3 x4 = ((0 : Int32), (f_X7_bounds S_2 x1 x2 (f_X7_downward (mk S_2 x1.toNatClampNeg) v15_12) (f_X7_upward (mk S_2 x1.toNatClampNeg) v17_13))) := hf
                      have hl : lv_has ls 27 [(0, .ref o), (1, .int x1), (2, .int x2), (6, .int (nI (mk S_2 x1.toNatClampNeg))), (15, .long v15_12), (17, .long v17_13)] := hl
                      refine lv_aload_n hx hb dX7_interval_441 rfl (lv_at hl 0 rfl) ?_
                      refine lv_iload_n hx hb dX7_interval_442 rfl (lv_at hl 1 rfl) ?_
                      refine lv_iload_n hx hb dX7_interval_443 rfl (lv_at hl 2 rfl) ?_
                      refine lv_aload_n hx hb dX7_interval_444 rfl (lv_at hl 0 rfl) ?_
                      refine lv_iload hx hb dX7_interval_445 (lv_at hl 3 rfl) ?_
                      refine lv_lload hx hb dX7_interval_447 (lv_at hl 4 rfl) ?_
                      refine vp_callSl (va_Run.run (va_runV (As := [.int (nI (mk S_2 x1.toNatClampNeg)), .long v15_12]) (rest := [.int x2, .int x1, .ref o]) ⟨hx, hb, hml, hown, hts⟩ (c_X7_downward l o r (mk S_2 x1.toNatClampNeg) (mRow.k hI (mPair.row hQ2)) v15_12) (cwV 2 hts (gV iX7_downward (zin__r30 (.methodLink RX7 239 yX7_downward) (List.mem_of_getElem? (i := 19) rfl))) rfl rfl rfl (by decide +kernel) ⟨Nat.le_of_ble_eq_true rfl, Nat.le_of_ble_eq_true rfl⟩) ⟨fun a U g mk q => ⟨q.1, mU_bl q.2⟩, (mW_rv hw), fun U hU hW => ⟨rfl, mU_mvH hm hU hW⟩⟩ rfl rfl hl.1 rfl (lv_room (Nat.le_of_ble_eq_true rfl)) dX7_interval_449 ⟨Nat.zero_le _, Nat.zero_le _⟩)) (fun r_449 hr_449 => ?_)
                      subst hr_449
                      refine lv_aload_n hx hb dX7_interval_452 rfl (lv_at hl 0 rfl) ?_
                      refine lv_iload hx hb dX7_interval_453 (lv_at hl 3 rfl) ?_
                      refine lv_lload hx hb dX7_interval_455 (lv_at hl 5 rfl) ?_
                      refine vp_callSl (va_Run.run (va_runV (As := [.int (nI (mk S_2 x1.toNatClampNeg)), .long v17_13]) (rest := [.long (f_X7_downward (mk S_2 x1.toNatClampNeg) v15_12), .int x2, .int x1, .ref o]) ⟨hx, hb, hml, hown, hts⟩ (c_X7_upward l o r (mk S_2 x1.toNatClampNeg) (mRow.k hI (mPair.row hQ2)) v17_13) (cwV 2 hts (gV iX7_upward (zin__r30 (.methodLink RX7 242 yX7_upward) (List.mem_of_getElem? (i := 23) rfl))) rfl rfl rfl (by decide +kernel) ⟨Nat.le_of_ble_eq_true rfl, Nat.le_of_ble_eq_true rfl⟩) ⟨fun a U g mk q => ⟨q.1, mU_bl q.2⟩, (mW_rv hw), fun U hU hW => ⟨rfl, mU_mvH hm hU hW⟩⟩ rfl rfl hl.1 rfl (lv_room (Nat.le_of_ble_eq_true rfl)) dX7_interval_457 ⟨Nat.zero_le _, Nat.zero_le _⟩)) (fun r_457 hr_457 => ?_)
                      subst hr_457
                      have hFc := va_free (wc := mWs o r cI cJ S_2) hD hS hA [0, 1, 2, 3, 4, 5, 6, 7, 8, 9, 10, 11, 12, 13, 14, 15, 16] rfl
                      refine va_callv (va_runV (As := [.int x1, .int x2, .long (f_X7_downward (mk S_2 x1.toNatClampNeg) v15_12), .long (f_X7_upward (mk S_2 x1.toNatClampNeg) v17_13)]) (rest := []) ⟨hx, hb, hml, hown, hts⟩ (c_X7_bounds l dC dI o r cI cJ H.size S_2 x1 x2 (f_X7_downward (mk S_2 x1.toNatClampNeg) v15_12) (f_X7_upward (mk S_2 x1.toNatClampNeg) v17_13) hI hQ2) (cwV 4 hts (gV iX7_bounds (zin__r30 (.methodLink RX7 228 yX7_bounds) (List.mem_of_getElem? (i := 7) rfl))) rfl rfl rfl (by decide +kernel) ⟨Nat.le_of_ble_eq_true rfl, Nat.le_of_ble_eq_true rfl⟩) ⟨fun a U g mk q => ⟨q.1, mB_bl q.2⟩, mW_rv hw, fun U hU hW => ⟨rfl, mB_mv hw hD hU hW⟩⟩ rfl rfl hl.1 rfl (lv_room (Nat.le_of_ble_eq_true rfl)) dX7_interval_460 ⟨Nat.zero_le _, Nat.zero_le _⟩) hS (fun q _ h => hFc q h) hFc (fun S_14 t H1 locs ht hvm hw1 hB hz1 hk1 hS => ?_)
                      obtain ⟨hP, -, hD1⟩ := hB
                      rw [ht] at hP
                      have hD := hD1.weaken (fun k q _ h => hFc q.1 h)
                      generalize H1 = H at hP hS ⊢
                      have hw : mH dC dI o r cI cJ S_14 s H := ⟨hP, hK⟩
                      have hm := mA_of hts hw
                      have hf : f_X7_interval S x1 x2 x3 x4 = ((0 : Int32), S_14) := hf.trans (congrArg (fun z => ((0 : Int32), z)) hw1.symm)
                      refine lv_iconst (v := 0) hx hb dX7_interval_463 (by decide) ?_
                      exact W.iret hx hb hr (fun t ht hW => ⟨⟨_, S_14, rfl, hf.symm, by rw [ht]; exact hP, va_K.moved hW.alike hK, hD⟩, hS.F ht⟩) hS.2.2 dX7_interval_464
                    refine lv_icmp_le (tgt := 441) hx hb dX7_interval_326 (by decide) (fun c_326 => ?_) (fun c_326 => ?_)
                    · have hf : f_X7_interval S x1 x2 x3 x4 = (f_X7_interval_2 S_2 x1 x2 v15_9 v17_11) := hf.trans (if_pos c_326)
                      exact K_441 (v15_9, v17_11) ls hf (lv_sub hl [1, 2, 3, 5, 10, 0] rfl)
                    · have hf : f_X7_interval S x1 x2 x3 x4 = (f_X7_interval_3 S_2 x1 x2 (f_X7_member (mk S_2 x1.toNatClampNeg) x4 v7_3 v11_5) (f_X7_member (mk S_2 x1.toNatClampNeg) x4 v7_3 v13_6) (f_X7_member (mk S_2 x1.toNatClampNeg) x4 v9_4 v11_5) (f_X7_member (mk S_2 x1.toNatClampNeg) x4 v9_4 v13_6)) := hf.trans (if_neg c_326)
                      refine lv_aload_n hx hb dX7_interval_329 rfl (lv_at hl 1 rfl) ?_
                      refine lv_iload hx hb dX7_interval_330 (lv_at hl 5 rfl) ?_
                      refine lv_iload hx hb dX7_interval_332 (lv_at hl 4 rfl) ?_
                      refine lv_lload hx hb dX7_interval_334 (lv_at hl 6 rfl) ?_
                      refine lv_lload hx hb dX7_interval_336 (lv_at hl 8 rfl) ?_
                      refine vp_callSl (va_Run.run (va_runV (As := [.int (nI (mk S_2 x1.toNatClampNeg)), .int x4, .long v7_3, .long v11_5]) (rest := []) ⟨hx, hb, hml, hown, hts⟩ (c_X7_member l o r (mk S_2 x1.toNatClampNeg) (mRow.k hI (mPair.row hQ2)) x4 v7_3 v11_5 hcA hcC) (cwV 4 hts (gV iX7_member (zin__r30 (.methodLink RX7 236 yX7_member) (List.mem_of_getElem? (i := 15) rfl))) rfl rfl rfl (by decide +kernel) ⟨Nat.le_of_ble_eq_true rfl, Nat.le_of_ble_eq_true rfl⟩) ⟨fun a U g mk q => ⟨q.1, mU_bl q.2⟩, (mW_rv hw), fun U hU hW => ⟨rfl, mU_mvH hm hU hW⟩⟩ rfl rfl hl.1 rfl (lv_room (Nat.le_of_ble_eq_true rfl)) dX7_interval_338 ⟨Nat.zero_le _, Nat.zero_le _⟩)) (fun r_338 hr_338 => ?_)
                      subst hr_338
                      refine lv_topl (fun v19_15 e_v19_15 => ?_)
                      have hf : f_X7_interval S x1 x2 x3 x4 = (f_X7_interval_3 S_2 x1 x2 v19_15 (f_X7_member (mk S_2 x1.toNatClampNeg) x4 v7_3 v13_6) (f_X7_member (mk S_2 x1.toNatClampNeg) x4 v9_4 v11_5) (f_X7_member (mk S_2 x1.toNatClampNeg) x4 v9_4 v13_6)) := hf.trans (congrArg (fun z => (f_X7_interval_3 S_2 x1 x2 z (f_X7_member (mk S_2 x1.toNatClampNeg) x4 v7_3 v13_6) (f_X7_member (mk S_2 x1.toNatClampNeg) x4 v9_4 v11_5) (f_X7_member (mk S_2 x1.toNatClampNeg) x4 v9_4 v13_6))) e_v19_15.symm)
                      refine lv_lstore (lv' := [(19, .long v19_15), (17, .long v17_11), (0, .ref o), (1, .int x1), (2, .int x2), (4, .int x4), (6, .int (nI (mk S_2 x1.toNatClampNeg))), (7, .long v7_3), (9, .long v9_4), (11, .long v11_5), (13, .long v13_6), (15, .long v15_9)]) hx hb dX7_interval_341 hl (by decide) rfl (fun ls hl => ?_)
                      refine lv_aload_n hx hb dX7_interval_343 rfl (lv_at hl 2 rfl) ?_
                      refine lv_iload hx hb dX7_interval_344 (lv_at hl 6 rfl) ?_
                      refine lv_iload hx hb dX7_interval_346 (lv_at hl 5 rfl) ?_
                      refine lv_lload hx hb dX7_interval_348 (lv_at hl 7 rfl) ?_
                      refine lv_lload hx hb dX7_interval_350 (lv_at hl 10 rfl) ?_
                      refine vp_callSl (va_Run.run (va_runV (As := [.int (nI (mk S_2 x1.toNatClampNeg)), .int x4, .long v7_3, .long v13_6]) (rest := []) ⟨hx, hb, hml, hown, hts⟩ (c_X7_member l o r (mk S_2 x1.toNatClampNeg) (mRow.k hI (mPair.row hQ2)) x4 v7_3 v13_6 hcA hcD) (cwV 4 hts (gV iX7_member (zin__r30 (.methodLink RX7 236 yX7_member) (List.mem_of_getElem? (i := 15) rfl))) rfl rfl rfl (by decide +kernel) ⟨Nat.le_of_ble_eq_true rfl, Nat.le_of_ble_eq_true rfl⟩) ⟨fun a U g mk q => ⟨q.1, mU_bl q.2⟩, (mW_rv hw), fun U hU hW => ⟨rfl, mU_mvH hm hU hW⟩⟩ rfl rfl hl.1 rfl (lv_room (Nat.le_of_ble_eq_true rfl)) dX7_interval_352 ⟨Nat.zero_le _, Nat.zero_le _⟩)) (fun r_352 hr_352 => ?_)
                      subst hr_352
                      refine lv_topl (fun v21_16 e_v21_16 => ?_)
                      have hf : f_X7_interval S x1 x2 x3 x4 = (f_X7_interval_3 S_2 x1 x2 v19_15 v21_16 (f_X7_member (mk S_2 x1.toNatClampNeg) x4 v9_4 v11_5) (f_X7_member (mk S_2 x1.toNatClampNeg) x4 v9_4 v13_6)) := hf.trans (congrArg (fun z => (f_X7_interval_3 S_2 x1 x2 v19_15 z (f_X7_member (mk S_2 x1.toNatClampNeg) x4 v9_4 v11_5) (f_X7_member (mk S_2 x1.toNatClampNeg) x4 v9_4 v13_6))) e_v21_16.symm)
                      refine lv_lstore (lv' := [(21, .long v21_16), (19, .long v19_15), (17, .long v17_11), (0, .ref o), (1, .int x1), (2, .int x2), (4, .int x4), (6, .int (nI (mk S_2 x1.toNatClampNeg))), (7, .long v7_3), (9, .long v9_4), (11, .long v11_5), (13, .long v13_6), (15, .long v15_9)]) hx hb dX7_interval_355 hl (by decide) rfl (fun ls hl => ?_)
                      refine lv_aload_n hx hb dX7_interval_357 rfl (lv_at hl 3 rfl) ?_
                      refine lv_iload hx hb dX7_interval_358 (lv_at hl 7 rfl) ?_
                      refine lv_iload hx hb dX7_interval_360 (lv_at hl 6 rfl) ?_
                      refine lv_lload hx hb dX7_interval_362 (lv_at hl 9 rfl) ?_
                      refine lv_lload hx hb dX7_interval_364 (lv_at hl 10 rfl) ?_
                      refine vp_callSl (va_Run.run (va_runV (As := [.int (nI (mk S_2 x1.toNatClampNeg)), .int x4, .long v9_4, .long v11_5]) (rest := []) ⟨hx, hb, hml, hown, hts⟩ (c_X7_member l o r (mk S_2 x1.toNatClampNeg) (mRow.k hI (mPair.row hQ2)) x4 v9_4 v11_5 hcB hcC) (cwV 4 hts (gV iX7_member (zin__r30 (.methodLink RX7 236 yX7_member) (List.mem_of_getElem? (i := 15) rfl))) rfl rfl rfl (by decide +kernel) ⟨Nat.le_of_ble_eq_true rfl, Nat.le_of_ble_eq_true rfl⟩) ⟨fun a U g mk q => ⟨q.1, mU_bl q.2⟩, (mW_rv hw), fun U hU hW => ⟨rfl, mU_mvH hm hU hW⟩⟩ rfl rfl hl.1 rfl (lv_room (Nat.le_of_ble_eq_true rfl)) dX7_interval_366 ⟨Nat.zero_le _, Nat.zero_le _⟩)) (fun r_366 hr_366 => ?_)
                      subst hr_366
                      refine lv_topl (fun v23_17 e_v23_17 => ?_)
                      have hf : f_X7_interval S x1 x2 x3 x4 = (f_X7_interval_3 S_2 x1 x2 v19_15 v21_16 v23_17 (f_X7_member (mk S_2 x1.toNatClampNeg) x4 v9_4 v13_6)) := hf.trans (congrArg (fun z => (f_X7_interval_3 S_2 x1 x2 v19_15 v21_16 z (f_X7_member (mk S_2 x1.toNatClampNeg) x4 v9_4 v13_6))) e_v23_17.symm)
                      refine lv_lstore (lv' := [(23, .long v23_17), (21, .long v21_16), (19, .long v19_15), (17, .long v17_11), (0, .ref o), (1, .int x1), (2, .int x2), (4, .int x4), (6, .int (nI (mk S_2 x1.toNatClampNeg))), (7, .long v7_3), (9, .long v9_4), (11, .long v11_5), (13, .long v13_6), (15, .long v15_9)]) hx hb dX7_interval_369 hl (by decide) rfl (fun ls hl => ?_)
                      refine lv_aload_n hx hb dX7_interval_371 rfl (lv_at hl 4 rfl) ?_
                      refine lv_iload hx hb dX7_interval_372 (lv_at hl 8 rfl) ?_
                      refine lv_iload hx hb dX7_interval_374 (lv_at hl 7 rfl) ?_
                      refine lv_lload hx hb dX7_interval_376 (lv_at hl 10 rfl) ?_
                      refine lv_lload hx hb dX7_interval_378 (lv_at hl 12 rfl) ?_
                      refine vp_callSl (va_Run.run (va_runV (As := [.int (nI (mk S_2 x1.toNatClampNeg)), .int x4, .long v9_4, .long v13_6]) (rest := []) ⟨hx, hb, hml, hown, hts⟩ (c_X7_member l o r (mk S_2 x1.toNatClampNeg) (mRow.k hI (mPair.row hQ2)) x4 v9_4 v13_6 hcB hcD) (cwV 4 hts (gV iX7_member (zin__r30 (.methodLink RX7 236 yX7_member) (List.mem_of_getElem? (i := 15) rfl))) rfl rfl rfl (by decide +kernel) ⟨Nat.le_of_ble_eq_true rfl, Nat.le_of_ble_eq_true rfl⟩) ⟨fun a U g mk q => ⟨q.1, mU_bl q.2⟩, (mW_rv hw), fun U hU hW => ⟨rfl, mU_mvH hm hU hW⟩⟩ rfl rfl hl.1 rfl (lv_room (Nat.le_of_ble_eq_true rfl)) dX7_interval_380 ⟨Nat.zero_le _, Nat.zero_le _⟩)) (fun r_380 hr_380 => ?_)
                      subst hr_380
                      refine lv_topl (fun v25_18 e_v25_18 => ?_)
                      have hf : f_X7_interval S x1 x2 x3 x4 = (f_X7_interval_3 S_2 x1 x2 v19_15 v21_16 v23_17 v25_18) := hf.trans (congrArg (fun z => (f_X7_interval_3 S_2 x1 x2 v19_15 v21_16 v23_17 z)) e_v25_18.symm)
                      refine lv_lstore (lv' := [(25, .long v25_18), (23, .long v23_17), (21, .long v21_16), (19, .long v19_15), (17, .long v17_11), (0, .ref o), (1, .int x1), (2, .int x2), (4, .int x4), (6, .int (nI (mk S_2 x1.toNatClampNeg))), (7, .long v7_3), (9, .long v9_4), (11, .long v11_5), (13, .long v13_6), (15, .long v15_9)]) hx hb dX7_interval_383 hl (by decide) rfl (fun ls hl => ?_)
                      refine lv_aload_n hx hb dX7_interval_385 rfl (lv_at hl 5 rfl) ?_
                      refine lv_iload hx hb dX7_interval_386 (lv_at hl 9 rfl) ?_
                      refine lv_aload_n hx hb dX7_interval_388 rfl (lv_at hl 5 rfl) ?_
                      refine lv_iload hx hb dX7_interval_389 (lv_at hl 9 rfl) ?_
                      refine lv_lload hx hb dX7_interval_391 (lv_at hl 3 rfl) ?_
                      refine lv_lload hx hb dX7_interval_393 (lv_at hl 2 rfl) ?_
                      refine vp_callSl (va_Run.run (va_runV (As := [.int (nI (mk S_2 x1.toNatClampNeg)), .long v19_15, .long v21_16]) (rest := [.int (nI (mk S_2 x1.toNatClampNeg)), .ref o]) ⟨hx, hb, hml, hown, hts⟩ (c_X7_lesser l o r (mk S_2 x1.toNatClampNeg) (mRow.k hI (mPair.row hQ2)) v19_15 v21_16) (cwV 3 hts (gV iX7_lesser (zin__r20 (.methodLink RX7 190 yX7_lesser) (List.mem_of_getElem? (i := 18) rfl))) rfl rfl rfl (by decide +kernel) ⟨Nat.le_of_ble_eq_true rfl, Nat.le_of_ble_eq_true rfl⟩) ⟨fun a U g mk q => ⟨q.1, mU_bl q.2⟩, (mW_rv hw), fun U hU hW => ⟨rfl, mU_mvH hm hU hW⟩⟩ rfl rfl hl.1 rfl (lv_room (Nat.le_of_ble_eq_true rfl)) dX7_interval_395 ⟨Nat.zero_le _, Nat.zero_le _⟩)) (fun r_395 hr_395 => ?_)
                      subst hr_395
                      refine lv_aload_n hx hb dX7_interval_398 rfl (lv_at hl 5 rfl) ?_
                      refine lv_iload hx hb dX7_interval_399 (lv_at hl 9 rfl) ?_
                      refine lv_lload hx hb dX7_interval_401 (lv_at hl 1 rfl) ?_
                      refine lv_lload hx hb dX7_interval_403 (lv_at hl 0 rfl) ?_
                      refine vp_callSl (va_Run.run (va_runV (As := [.int (nI (mk S_2 x1.toNatClampNeg)), .long v23_17, .long v25_18]) (rest := [.long (f_X7_lesser (mk S_2 x1.toNatClampNeg) v19_15 v21_16), .int (nI (mk S_2 x1.toNatClampNeg)), .ref o]) ⟨hx, hb, hml, hown, hts⟩ (c_X7_lesser l o r (mk S_2 x1.toNatClampNeg) (mRow.k hI (mPair.row hQ2)) v23_17 v25_18) (cwV 3 hts (gV iX7_lesser (zin__r20 (.methodLink RX7 190 yX7_lesser) (List.mem_of_getElem? (i := 18) rfl))) rfl rfl rfl (by decide +kernel) ⟨Nat.le_of_ble_eq_true rfl, Nat.le_of_ble_eq_true rfl⟩) ⟨fun a U g mk q => ⟨q.1, mU_bl q.2⟩, (mW_rv hw), fun U hU hW => ⟨rfl, mU_mvH hm hU hW⟩⟩ rfl rfl hl.1 rfl (lv_room (Nat.le_of_ble_eq_true rfl)) dX7_interval_405 ⟨Nat.zero_le _, Nat.zero_le _⟩)) (fun r_405 hr_405 => ?_)
                      subst hr_405
                      refine vp_callSl (va_Run.run (va_runV (As := [.int (nI (mk S_2 x1.toNatClampNeg)), .long (f_X7_lesser (mk S_2 x1.toNatClampNeg) v19_15 v21_16), .long (f_X7_lesser (mk S_2 x1.toNatClampNeg) v23_17 v25_18)]) (rest := []) ⟨hx, hb, hml, hown, hts⟩ (c_X7_lesser l o r (mk S_2 x1.toNatClampNeg) (mRow.k hI (mPair.row hQ2)) (f_X7_lesser (mk S_2 x1.toNatClampNeg) v19_15 v21_16) (f_X7_lesser (mk S_2 x1.toNatClampNeg) v23_17 v25_18)) (cwV 3 hts (gV iX7_lesser (zin__r20 (.methodLink RX7 190 yX7_lesser) (List.mem_of_getElem? (i := 18) rfl))) rfl rfl rfl (by decide +kernel) ⟨Nat.le_of_ble_eq_true rfl, Nat.le_of_ble_eq_true rfl⟩) ⟨fun a U g mk q => ⟨q.1, mU_bl q.2⟩, (mW_rv hw), fun U hU hW => ⟨rfl, mU_mvH hm hU hW⟩⟩ rfl rfl hl.1 rfl (lv_room (Nat.le_of_ble_eq_true rfl)) dX7_interval_408 ⟨Nat.zero_le _, Nat.zero_le _⟩)) (fun r_408 hr_408 => ?_)
                      subst hr_408
                      refine lv_topl (fun v15_19 e_v15_19 => ?_)
                      have hf : f_X7_interval S x1 x2 x3 x4 = (f_X7_interval_2 S_2 x1 x2 v15_19 (f_X7_greater (mk S_2 x1.toNatClampNeg) (f_X7_greater (mk S_2 x1.toNatClampNeg) v19_15 v21_16) (f_X7_greater (mk S_2 x1.toNatClampNeg) v23_17 v25_18))) := hf.trans (congrArg (fun z => (f_X7_interval_2 S_2 x1 x2 z (f_X7_greater (mk S_2 x1.toNatClampNeg) (f_X7_greater (mk S_2 x1.toNatClampNeg) v19_15 v21_16) (f_X7_greater (mk S_2 x1.toNatClampNeg) v23_17 v25_18)))) e_v15_19.symm)
                      refine lv_lstore (lv' := [(15, .long v15_19), (25, .long v25_18), (23, .long v23_17), (21, .long v21_16), (19, .long v19_15), (17, .long v17_11), (0, .ref o), (1, .int x1), (2, .int x2), (4, .int x4), (6, .int (nI (mk S_2 x1.toNatClampNeg))), (7, .long v7_3), (9, .long v9_4), (11, .long v11_5), (13, .long v13_6)]) hx hb dX7_interval_411 hl (by decide) rfl (fun ls hl => ?_)
                      refine lv_aload_n hx hb dX7_interval_413 rfl (lv_at hl 6 rfl) ?_
                      refine lv_iload hx hb dX7_interval_414 (lv_at hl 10 rfl) ?_
                      refine lv_aload_n hx hb dX7_interval_416 rfl (lv_at hl 6 rfl) ?_
                      refine lv_iload hx hb dX7_interval_417 (lv_at hl 10 rfl) ?_
                      refine lv_lload hx hb dX7_interval_419 (lv_at hl 4 rfl) ?_
                      refine lv_lload hx hb dX7_interval_421 (lv_at hl 3 rfl) ?_
                      refine vp_callSl (va_Run.run (va_runV (As := [.int (nI (mk S_2 x1.toNatClampNeg)), .long v19_15, .long v21_16]) (rest := [.int (nI (mk S_2 x1.toNatClampNeg)), .ref o]) ⟨hx, hb, hml, hown, hts⟩ (c_X7_greater l o r (mk S_2 x1.toNatClampNeg) (mRow.k hI (mPair.row hQ2)) v19_15 v21_16) (cwV 3 hts (gV iX7_greater (zin__r20 (.methodLink RX7 187 yX7_greater) (List.mem_of_getElem? (i := 14) rfl))) rfl rfl rfl (by decide +kernel) ⟨Nat.le_of_ble_eq_true rfl, Nat.le_of_ble_eq_true rfl⟩) ⟨fun a U g mk q => ⟨q.1, mU_bl q.2⟩, (mW_rv hw), fun U hU hW => ⟨rfl, mU_mvH hm hU hW⟩⟩ rfl rfl hl.1 rfl (lv_room (Nat.le_of_ble_eq_true rfl)) dX7_interval_423 ⟨Nat.zero_le _, Nat.zero_le _⟩)) (fun r_423 hr_423 => ?_)
                      subst hr_423
                      refine lv_aload_n hx hb dX7_interval_426 rfl (lv_at hl 6 rfl) ?_
                      refine lv_iload hx hb dX7_interval_427 (lv_at hl 10 rfl) ?_
                      refine lv_lload hx hb dX7_interval_429 (lv_at hl 2 rfl) ?_
                      refine lv_lload hx hb dX7_interval_431 (lv_at hl 1 rfl) ?_
                      refine vp_callSl (va_Run.run (va_runV (As := [.int (nI (mk S_2 x1.toNatClampNeg)), .long v23_17, .long v25_18]) (rest := [.long (f_X7_greater (mk S_2 x1.toNatClampNeg) v19_15 v21_16), .int (nI (mk S_2 x1.toNatClampNeg)), .ref o]) ⟨hx, hb, hml, hown, hts⟩ (c_X7_greater l o r (mk S_2 x1.toNatClampNeg) (mRow.k hI (mPair.row hQ2)) v23_17 v25_18) (cwV 3 hts (gV iX7_greater (zin__r20 (.methodLink RX7 187 yX7_greater) (List.mem_of_getElem? (i := 14) rfl))) rfl rfl rfl (by decide +kernel) ⟨Nat.le_of_ble_eq_true rfl, Nat.le_of_ble_eq_true rfl⟩) ⟨fun a U g mk q => ⟨q.1, mU_bl q.2⟩, (mW_rv hw), fun U hU hW => ⟨rfl, mU_mvH hm hU hW⟩⟩ rfl rfl hl.1 rfl (lv_room (Nat.le_of_ble_eq_true rfl)) dX7_interval_433 ⟨Nat.zero_le _, Nat.zero_le _⟩)) (fun r_433 hr_433 => ?_)
                      subst hr_433
                      refine vp_callSl (va_Run.run (va_runV (As := [.int (nI (mk S_2 x1.toNatClampNeg)), .long (f_X7_greater (mk S_2 x1.toNatClampNeg) v19_15 v21_16), .long (f_X7_greater (mk S_2 x1.toNatClampNeg) v23_17 v25_18)]) (rest := []) ⟨hx, hb, hml, hown, hts⟩ (c_X7_greater l o r (mk S_2 x1.toNatClampNeg) (mRow.k hI (mPair.row hQ2)) (f_X7_greater (mk S_2 x1.toNatClampNeg) v19_15 v21_16) (f_X7_greater (mk S_2 x1.toNatClampNeg) v23_17 v25_18)) (cwV 3 hts (gV iX7_greater (zin__r20 (.methodLink RX7 187 yX7_greater) (List.mem_of_getElem? (i := 14) rfl))) rfl rfl rfl (by decide +kernel) ⟨Nat.le_of_ble_eq_true rfl, Nat.le_of_ble_eq_true rfl⟩) ⟨fun a U g mk q => ⟨q.1, mU_bl q.2⟩, (mW_rv hw), fun U hU hW => ⟨rfl, mU_mvH hm hU hW⟩⟩ rfl rfl hl.1 rfl (lv_room (Nat.le_of_ble_eq_true rfl)) dX7_interval_436 ⟨Nat.zero_le _, Nat.zero_le _⟩)) (fun r_436 hr_436 => ?_)
                      subst hr_436
                      refine lv_topl (fun v17_20 e_v17_20 => ?_)
                      have hf : f_X7_interval S x1 x2 x3 x4 = (f_X7_interval_2 S_2 x1 x2 v15_19 v17_20) := hf.trans (congrArg (fun z => (f_X7_interval_2 S_2 x1 x2 v15_19 z)) e_v17_20.symm)
                      refine lv_lstore (lv' := [(17, .long v17_20), (15, .long v15_19), (25, .long v25_18), (23, .long v23_17), (21, .long v21_16), (19, .long v19_15), (0, .ref o), (1, .int x1), (2, .int x2), (4, .int x4), (6, .int (nI (mk S_2 x1.toNatClampNeg))), (7, .long v7_3), (9, .long v9_4), (11, .long v11_5), (13, .long v13_6)]) hx hb dX7_interval_439 hl (by decide) rfl (fun ls hl => ?_)
                      exact K_441 (v15_19, v17_20) ls hf (lv_sub hl [6, 7, 8, 10, 1, 0] rfl)
                  refine lv_if_ne (tgt := 310) hx hb dX7_interval_302 (by decide) (fun c_302 => ?_) (fun c_302 => ?_)
                  · have hf : f_X7_interval S x1 x2 x3 x4 = (f_X7_interval_5 x4 S_2 x1 x2 v15_9 v9_4 (f_X7_turned (mk S_2 x1.toNatClampNeg) v11_5) v7_3 v11_5 v13_6) := hf.trans (if_neg c_302)
                    refine lv_aload_n hx hb dX7_interval_310 rfl (lv_at hl 1 rfl) ?_
                    refine lv_iload hx hb dX7_interval_311 (lv_at hl 5 rfl) ?_
                    refine lv_lload hx hb dX7_interval_313 (lv_at hl 8 rfl) ?_
                    refine vp_callSl (va_Run.run (va_runV (As := [.int (nI (mk S_2 x1.toNatClampNeg)), .long v11_5]) (rest := [.long v9_4, .int (nI (mk S_2 x1.toNatClampNeg)), .ref o]) ⟨hx, hb, hml, hown, hts⟩ (c_X7_turned l o r (mk S_2 x1.toNatClampNeg) (mRow.k hI (mPair.row hQ2)) v11_5) (cwV 2 hts (gV iX7_turned (zin__r21 (.methodLink RX7 200 yX7_turned) (List.mem_of_getElem? (i := 10) rfl))) rfl rfl rfl (by decide +kernel) ⟨Nat.le_of_ble_eq_true rfl, Nat.le_of_ble_eq_true rfl⟩) ⟨fun a U g mk q => ⟨q.1, mU_bl q.2⟩, (mW_rv hw), fun U hU hW => ⟨rfl, mU_mvH hm hU hW⟩⟩ rfl rfl hl.1 rfl (lv_room (Nat.le_of_ble_eq_true rfl)) dX7_interval_315 ⟨Nat.zero_le _, Nat.zero_le _⟩)) (fun r_315 hr_315 => ?_)
                    subst hr_315
                    exact K_318 (f_X7_turned (mk S_2 x1.toNatClampNeg) v11_5) ls ⟨hf, (kcn_turned (mRow.k hI (mPair.row hQ2)) hcC)⟩ (lv_sub hl [1, 2, 3, 4, 5, 6, 7, 8, 9, 0] rfl)
                  · have hf : f_X7_interval S x1 x2 x3 x4 = (f_X7_interval_5 x4 S_2 x1 x2 v15_9 v9_4 v13_6 v7_3 v11_5 v13_6) := hf.trans (if_pos c_302)
                    refine lv_lload hx hb dX7_interval_305 (lv_at hl 9 rfl) ?_
                    refine lv_goto (tgt := 318) hx hb dX7_interval_307 (by decide) ?_
                    exact K_318 v13_6 ls ⟨hf, hcD⟩ (lv_sub hl [1, 2, 3, 4, 5, 6, 7, 8, 9, 0] rfl)
                refine lv_if_ne (tgt := 282) hx hb dX7_interval_274 (by decide) (fun c_274 => ?_) (fun c_274 => ?_)
                · have hf : f_X7_interval S x1 x2 x3 x4 = (f_X7_interval_7 x4 S_2 x1 x2 v7_3 (f_X7_turned (mk S_2 x1.toNatClampNeg) v13_6) v9_4 v13_6 v11_5) := hf.trans (if_neg c_274)
                  refine lv_aload_n hx hb dX7_interval_282 rfl (lv_at hl 0 rfl) ?_
                  refine lv_iload hx hb dX7_interval_283 (lv_at hl 4 rfl) ?_
                  refine lv_lload hx hb dX7_interval_285 (lv_at hl 8 rfl) ?_
                  refine vp_callSl (va_Run.run (va_runV (As := [.int (nI (mk S_2 x1.toNatClampNeg)), .long v13_6]) (rest := [.long v7_3, .int (nI (mk S_2 x1.toNatClampNeg)), .ref o]) ⟨hx, hb, hml, hown, hts⟩ (c_X7_turned l o r (mk S_2 x1.toNatClampNeg) (mRow.k hI (mPair.row hQ2)) v13_6) (cwV 2 hts (gV iX7_turned (zin__r21 (.methodLink RX7 200 yX7_turned) (List.mem_of_getElem? (i := 10) rfl))) rfl rfl rfl (by decide +kernel) ⟨Nat.le_of_ble_eq_true rfl, Nat.le_of_ble_eq_true rfl⟩) ⟨fun a U g mk q => ⟨q.1, mU_bl q.2⟩, (mW_rv hw), fun U hU hW => ⟨rfl, mU_mvH hm hU hW⟩⟩ rfl rfl hl.1 rfl (lv_room (Nat.le_of_ble_eq_true rfl)) dX7_interval_287 ⟨Nat.zero_le _, Nat.zero_le _⟩)) (fun r_287 hr_287 => ?_)
                  subst hr_287
                  exact K_290 (f_X7_turned (mk S_2 x1.toNatClampNeg) v13_6) ls ⟨hf, (kcn_turned (mRow.k hI (mPair.row hQ2)) hcD)⟩ (lv_sub hl [0, 1, 2, 3, 4, 5, 6, 7, 8] rfl)
                · have hf : f_X7_interval S x1 x2 x3 x4 = (f_X7_interval_7 x4 S_2 x1 x2 v7_3 v11_5 v9_4 v13_6 v11_5) := hf.trans (if_pos c_274)
                  refine lv_lload hx hb dX7_interval_277 (lv_at hl 7 rfl) ?_
                  refine lv_goto (tgt := 290) hx hb dX7_interval_279 (by decide) ?_
                  exact K_290 v11_5 ls ⟨hf, hcC⟩ (lv_sub hl [0, 1, 2, 3, 4, 5, 6, 7, 8] rfl)
              · have hf : f_X7_interval S x1 x2 x3 x4 = (f_X7_interval_9 (f_X7_meet S_2 x1 x2 (f_X7_greater (mk S_2 x1.toNatClampNeg) v7_3 v11_5) (f_X7_lesser (mk S_2 x1.toNatClampNeg) v9_4 v13_6))) := hf.trans (if_pos c_237)
                refine lv_aload_n hx hb dX7_interval_240 rfl (lv_at hl 0 rfl) ?_
                refine lv_iload_n hx hb dX7_interval_241 rfl (lv_at hl 1 rfl) ?_
                refine lv_iload_n hx hb dX7_interval_242 rfl (lv_at hl 2 rfl) ?_
                refine lv_aload_n hx hb dX7_interval_243 rfl (lv_at hl 0 rfl) ?_
                refine lv_iload hx hb dX7_interval_244 (lv_at hl 4 rfl) ?_
                refine lv_lload hx hb dX7_interval_246 (lv_at hl 5 rfl) ?_
                refine lv_lload hx hb dX7_interval_248 (lv_at hl 7 rfl) ?_
                refine vp_callSl (va_Run.run (va_runV (As := [.int (nI (mk S_2 x1.toNatClampNeg)), .long v7_3, .long v11_5]) (rest := [.int x2, .int x1, .ref o]) ⟨hx, hb, hml, hown, hts⟩ (c_X7_greater l o r (mk S_2 x1.toNatClampNeg) (mRow.k hI (mPair.row hQ2)) v7_3 v11_5) (cwV 3 hts (gV iX7_greater (zin__r20 (.methodLink RX7 187 yX7_greater) (List.mem_of_getElem? (i := 14) rfl))) rfl rfl rfl (by decide +kernel) ⟨Nat.le_of_ble_eq_true rfl, Nat.le_of_ble_eq_true rfl⟩) ⟨fun a U g mk q => ⟨q.1, mU_bl q.2⟩, (mW_rv hw), fun U hU hW => ⟨rfl, mU_mvH hm hU hW⟩⟩ rfl rfl hl.1 rfl (lv_room (Nat.le_of_ble_eq_true rfl)) dX7_interval_250 ⟨Nat.zero_le _, Nat.zero_le _⟩)) (fun r_250 hr_250 => ?_)
                subst hr_250
                refine lv_aload_n hx hb dX7_interval_253 rfl (lv_at hl 0 rfl) ?_
                refine lv_iload hx hb dX7_interval_254 (lv_at hl 4 rfl) ?_
                refine lv_lload hx hb dX7_interval_256 (lv_at hl 6 rfl) ?_
                refine lv_lload hx hb dX7_interval_258 (lv_at hl 8 rfl) ?_
                refine vp_callSl (va_Run.run (va_runV (As := [.int (nI (mk S_2 x1.toNatClampNeg)), .long v9_4, .long v13_6]) (rest := [.long (f_X7_greater (mk S_2 x1.toNatClampNeg) v7_3 v11_5), .int x2, .int x1, .ref o]) ⟨hx, hb, hml, hown, hts⟩ (c_X7_lesser l o r (mk S_2 x1.toNatClampNeg) (mRow.k hI (mPair.row hQ2)) v9_4 v13_6) (cwV 3 hts (gV iX7_lesser (zin__r20 (.methodLink RX7 190 yX7_lesser) (List.mem_of_getElem? (i := 18) rfl))) rfl rfl rfl (by decide +kernel) ⟨Nat.le_of_ble_eq_true rfl, Nat.le_of_ble_eq_true rfl⟩) ⟨fun a U g mk q => ⟨q.1, mU_bl q.2⟩, (mW_rv hw), fun U hU hW => ⟨rfl, mU_mvH hm hU hW⟩⟩ rfl rfl hl.1 rfl (lv_room (Nat.le_of_ble_eq_true rfl)) dX7_interval_260 ⟨Nat.zero_le _, Nat.zero_le _⟩)) (fun r_260 hr_260 => ?_)
                subst hr_260
                have hFc := va_free (wc := mWs o r cI cJ S_2) hD hS hA [0, 1, 2, 3, 4, 5, 6, 7, 8, 9, 10, 11, 12, 13, 14, 15, 16] rfl
                refine va_calli (va_runV (As := [.int x1, .int x2, .long (f_X7_greater (mk S_2 x1.toNatClampNeg) v7_3 v11_5), .long (f_X7_lesser (mk S_2 x1.toNatClampNeg) v9_4 v13_6)]) (rest := []) ⟨hx, hb, hml, hown, hts⟩ (c_X7_meet l dC dI o r cI cJ H.size S_2 x1 x2 (f_X7_greater (mk S_2 x1.toNatClampNeg) v7_3 v11_5) (f_X7_lesser (mk S_2 x1.toNatClampNeg) v9_4 v13_6) hI hQ2) (cwV 4 hts (gV iX7_meet (zin__r30 (.methodLink RX7 232 yX7_meet) (List.mem_of_getElem? (i := 11) rfl))) rfl rfl rfl (by decide +kernel) ⟨Nat.le_of_ble_eq_true rfl, Nat.le_of_ble_eq_true rfl⟩) ⟨fun a U g mk q => ⟨q.1, mB_bl q.2⟩, mW_rv hw, fun U hU hW => ⟨rfl, mB_mv hw hD hU hW⟩⟩ rfl rfl hl.1 rfl (lv_room (Nat.le_of_ble_eq_true rfl)) dX7_interval_263 ⟨Nat.zero_le _, Nat.zero_le _⟩) hS (fun q _ h => hFc q h) hFc (fun r_263 S_21 t H1 locs ht hvm hw1 hB hz1 hk1 hS => ?_)
                obtain ⟨hP, -, hD1⟩ := hB
                rw [ht] at hP
                have hD := hD1.weaken (fun k q _ h => hFc q.1 h)
                generalize H1 = H at hP hS ⊢
                have hw : mH dC dI o r cI cJ S_21 s H := ⟨hP, hK⟩
                have hm := mA_of hts hw
                have hf : f_X7_interval S x1 x2 x3 x4 = (r_263, S_21) := hf.trans (congrArg (fun z => (f_X7_interval_9 z)) hw1.symm)
                exact W.iret hx hb hr (fun t ht hW => ⟨⟨_, S_21, rfl, hf.symm, by rw [ht]; exact hP, va_K.moved hW.alike hK, hD⟩, hS.F ht⟩) hS.2.2 dX7_interval_266
            · have hf : f_X7_interval S x1 x2 x3 x4 = ((0 : Int32), (f_X7_bounds S_2 x1 x2 (f_X7_lesser (mk S_2 x1.toNatClampNeg) v7_3 v11_5) (f_X7_greater (mk S_2 x1.toNatClampNeg) v9_4 v13_6))) := hf.trans (if_pos c_203)
              refine lv_aload_n hx hb dX7_interval_206 rfl (lv_at hl 0 rfl) ?_
              refine lv_iload_n hx hb dX7_interval_207 rfl (lv_at hl 1 rfl) ?_
              refine lv_iload_n hx hb dX7_interval_208 rfl (lv_at hl 2 rfl) ?_
              refine lv_aload_n hx hb dX7_interval_209 rfl (lv_at hl 0 rfl) ?_
              refine lv_iload hx hb dX7_interval_210 (lv_at hl 4 rfl) ?_
              refine lv_lload hx hb dX7_interval_212 (lv_at hl 5 rfl) ?_
              refine lv_lload hx hb dX7_interval_214 (lv_at hl 7 rfl) ?_
              refine vp_callSl (va_Run.run (va_runV (As := [.int (nI (mk S_2 x1.toNatClampNeg)), .long v7_3, .long v11_5]) (rest := [.int x2, .int x1, .ref o]) ⟨hx, hb, hml, hown, hts⟩ (c_X7_lesser l o r (mk S_2 x1.toNatClampNeg) (mRow.k hI (mPair.row hQ2)) v7_3 v11_5) (cwV 3 hts (gV iX7_lesser (zin__r20 (.methodLink RX7 190 yX7_lesser) (List.mem_of_getElem? (i := 18) rfl))) rfl rfl rfl (by decide +kernel) ⟨Nat.le_of_ble_eq_true rfl, Nat.le_of_ble_eq_true rfl⟩) ⟨fun a U g mk q => ⟨q.1, mU_bl q.2⟩, (mW_rv hw), fun U hU hW => ⟨rfl, mU_mvH hm hU hW⟩⟩ rfl rfl hl.1 rfl (lv_room (Nat.le_of_ble_eq_true rfl)) dX7_interval_216 ⟨Nat.zero_le _, Nat.zero_le _⟩)) (fun r_216 hr_216 => ?_)
              subst hr_216
              refine lv_aload_n hx hb dX7_interval_219 rfl (lv_at hl 0 rfl) ?_
              refine lv_iload hx hb dX7_interval_220 (lv_at hl 4 rfl) ?_
              refine lv_lload hx hb dX7_interval_222 (lv_at hl 6 rfl) ?_
              refine lv_lload hx hb dX7_interval_224 (lv_at hl 8 rfl) ?_
              refine vp_callSl (va_Run.run (va_runV (As := [.int (nI (mk S_2 x1.toNatClampNeg)), .long v9_4, .long v13_6]) (rest := [.long (f_X7_lesser (mk S_2 x1.toNatClampNeg) v7_3 v11_5), .int x2, .int x1, .ref o]) ⟨hx, hb, hml, hown, hts⟩ (c_X7_greater l o r (mk S_2 x1.toNatClampNeg) (mRow.k hI (mPair.row hQ2)) v9_4 v13_6) (cwV 3 hts (gV iX7_greater (zin__r20 (.methodLink RX7 187 yX7_greater) (List.mem_of_getElem? (i := 14) rfl))) rfl rfl rfl (by decide +kernel) ⟨Nat.le_of_ble_eq_true rfl, Nat.le_of_ble_eq_true rfl⟩) ⟨fun a U g mk q => ⟨q.1, mU_bl q.2⟩, (mW_rv hw), fun U hU hW => ⟨rfl, mU_mvH hm hU hW⟩⟩ rfl rfl hl.1 rfl (lv_room (Nat.le_of_ble_eq_true rfl)) dX7_interval_226 ⟨Nat.zero_le _, Nat.zero_le _⟩)) (fun r_226 hr_226 => ?_)
              subst hr_226
              have hFc := va_free (wc := mWs o r cI cJ S_2) hD hS hA [0, 1, 2, 3, 4, 5, 6, 7, 8, 9, 10, 11, 12, 13, 14, 15, 16] rfl
              refine va_callv (va_runV (As := [.int x1, .int x2, .long (f_X7_lesser (mk S_2 x1.toNatClampNeg) v7_3 v11_5), .long (f_X7_greater (mk S_2 x1.toNatClampNeg) v9_4 v13_6)]) (rest := []) ⟨hx, hb, hml, hown, hts⟩ (c_X7_bounds l dC dI o r cI cJ H.size S_2 x1 x2 (f_X7_lesser (mk S_2 x1.toNatClampNeg) v7_3 v11_5) (f_X7_greater (mk S_2 x1.toNatClampNeg) v9_4 v13_6) hI hQ2) (cwV 4 hts (gV iX7_bounds (zin__r30 (.methodLink RX7 228 yX7_bounds) (List.mem_of_getElem? (i := 7) rfl))) rfl rfl rfl (by decide +kernel) ⟨Nat.le_of_ble_eq_true rfl, Nat.le_of_ble_eq_true rfl⟩) ⟨fun a U g mk q => ⟨q.1, mB_bl q.2⟩, mW_rv hw, fun U hU hW => ⟨rfl, mB_mv hw hD hU hW⟩⟩ rfl rfl hl.1 rfl (lv_room (Nat.le_of_ble_eq_true rfl)) dX7_interval_229 ⟨Nat.zero_le _, Nat.zero_le _⟩) hS (fun q _ h => hFc q h) hFc (fun S_22 t H1 locs ht hvm hw1 hB hz1 hk1 hS => ?_)
              obtain ⟨hP, -, hD1⟩ := hB
              rw [ht] at hP
              have hD := hD1.weaken (fun k q _ h => hFc q.1 h)
              generalize H1 = H at hP hS ⊢
              have hw : mH dC dI o r cI cJ S_22 s H := ⟨hP, hK⟩
              have hm := mA_of hts hw
              have hf : f_X7_interval S x1 x2 x3 x4 = ((0 : Int32), S_22) := hf.trans (congrArg (fun z => ((0 : Int32), z)) hw1.symm)
              refine lv_iconst (v := 0) hx hb dX7_interval_232 (by decide) ?_
              exact W.iret hx hb hr (fun t ht hW => ⟨⟨_, S_22, rfl, hf.symm, by rw [ht]; exact hP, va_K.moved hW.alike hK, hD⟩, hS.F ht⟩) hS.2.2 dX7_interval_233
          refine lv_icmp_ne (tgt := 200) hx hb dX7_interval_142 (by decide) (fun c_142 => ?_) (fun c_142 => ?_)
          · have hf : f_X7_interval S x1 x2 x3 x4 = (f_X7_interval_11 x4 S_2 x1 x2 v7_3 v11_5 v9_4 v13_6) := hf.trans (if_neg c_142)
            exact K_200 () ls hf (lv_sub hl [6, 7, 8, 10, 4, 3, 2, 1, 0] rfl)
          · have hf : f_X7_interval S x1 x2 x3 x4 = (f_X7_interval_13 S_2 x1 v11_5 x4 x2 v7_3 v9_4 v13_6) := hf.trans (if_pos c_142)
            refine lv_aload_n hx hb dX7_interval_145 rfl (lv_at hl 6 rfl) ?_
            refine lv_iload hx hb dX7_interval_146 (lv_at hl 4 rfl) ?_
            refine lv_lload hx hb dX7_interval_148 (lv_at hl 1 rfl) ?_
            refine vp_callSl (va_Run.run (va_runV (As := [.int (nI (mk S_2 x1.toNatClampNeg)), .long v11_5]) (rest := []) ⟨hx, hb, hml, hown, hts⟩ (c_X7_rank l o r (mk S_2 x1.toNatClampNeg) (mRow.k hI (mPair.row hQ2)) v11_5) (cwV 2 hts (gV iX7_rank (zin__r14 (.methodLink RX7 133 yX7_rank) (List.mem_of_getElem? (i := 11) rfl))) rfl rfl rfl (by decide +kernel) ⟨Nat.le_of_ble_eq_true rfl, Nat.le_of_ble_eq_true rfl⟩) ⟨fun a U g mk q => ⟨q.1, mU_bl q.2⟩, (mW_rv hw), fun U hU hW => ⟨rfl, mU_mvH hm hU hW⟩⟩ rfl rfl hl.1 rfl (lv_room (Nat.le_of_ble_eq_true rfl)) dX7_interval_150 ⟨Nat.zero_le _, Nat.zero_le _⟩)) (fun r_150 hr_150 => ?_)
            subst hr_150
            refine lv_lconst (v := 0) hx hb dX7_interval_153 (by decide) ?_
            refine W.lcmp hx hb dX7_interval_154 ?_
            refine lv_if_gt (tgt := 200) hx hb dX7_interval_155 (by decide) (fun c_155 => ?_) (fun c_155 => ?_)
            · have c_155 : (0 : Int64) < (f_X7_rank (mk S_2 x1.toNatClampNeg) v11_5) := (lg_cmp_gt (f_X7_rank (mk S_2 x1.toNatClampNeg) v11_5) (0 : Int64)).mp c_155
              have hf : f_X7_interval S x1 x2 x3 x4 = (f_X7_interval_11 x4 S_2 x1 x2 v7_3 v11_5 v9_4 v13_6) := hf.trans (if_pos c_155)
              exact K_200 () ls hf (lv_sub hl [6, 7, 8, 10, 4, 3, 2, 1, 0] rfl)
            · have c_155 : ¬ ((0 : Int64) < (f_X7_rank (mk S_2 x1.toNatClampNeg) v11_5)) := fun h9 => c_155 ((lg_cmp_gt (f_X7_rank (mk S_2 x1.toNatClampNeg) v11_5) (0 : Int64)).mpr h9)
              have hf : f_X7_interval S x1 x2 x3 x4 = (f_X7_interval_12 S_2 x1 v13_6 x4 x2 v7_3 v11_5 v9_4) := hf.trans (if_neg c_155)
              refine lv_aload_n hx hb dX7_interval_158 rfl (lv_at hl 6 rfl) ?_
              refine lv_iload hx hb dX7_interval_159 (lv_at hl 4 rfl) ?_
              refine lv_lload hx hb dX7_interval_161 (lv_at hl 0 rfl) ?_
              refine vp_callSl (va_Run.run (va_runV (As := [.int (nI (mk S_2 x1.toNatClampNeg)), .long v13_6]) (rest := []) ⟨hx, hb, hml, hown, hts⟩ (c_X7_rank l o r (mk S_2 x1.toNatClampNeg) (mRow.k hI (mPair.row hQ2)) v13_6) (cwV 2 hts (gV iX7_rank (zin__r14 (.methodLink RX7 133 yX7_rank) (List.mem_of_getElem? (i := 11) rfl))) rfl rfl rfl (by decide +kernel) ⟨Nat.le_of_ble_eq_true rfl, Nat.le_of_ble_eq_true rfl⟩) ⟨fun a U g mk q => ⟨q.1, mU_bl q.2⟩, (mW_rv hw), fun U hU hW => ⟨rfl, mU_mvH hm hU hW⟩⟩ rfl rfl hl.1 rfl (lv_room (Nat.le_of_ble_eq_true rfl)) dX7_interval_163 ⟨Nat.zero_le _, Nat.zero_le _⟩)) (fun r_163 hr_163 => ?_)
              subst hr_163
              refine lv_lconst (v := 0) hx hb dX7_interval_166 (by decide) ?_
              refine W.lcmp hx hb dX7_interval_167 ?_
              refine lv_if_lt (tgt := 200) hx hb dX7_interval_168 (by decide) (fun c_168 => ?_) (fun c_168 => ?_)
              · have c_168 : (f_X7_rank (mk S_2 x1.toNatClampNeg) v13_6) < (0 : Int64) := (lg_cmp_lt (f_X7_rank (mk S_2 x1.toNatClampNeg) v13_6) (0 : Int64)).mp c_168
                have hf : f_X7_interval S x1 x2 x3 x4 = (f_X7_interval_11 x4 S_2 x1 x2 v7_3 v11_5 v9_4 v13_6) := hf.trans (if_pos c_168)
                exact K_200 () ls hf (lv_sub hl [6, 7, 8, 10, 4, 3, 2, 1, 0] rfl)
              · have c_168 : ¬ ((f_X7_rank (mk S_2 x1.toNatClampNeg) v13_6) < (0 : Int64)) := fun h9 => c_168 ((lg_cmp_lt (f_X7_rank (mk S_2 x1.toNatClampNeg) v13_6) (0 : Int64)).mpr h9)
                have hf : f_X7_interval S x1 x2 x3 x4 = (f_X7_interval_1 S_2 x1 x2) := hf.trans (if_neg c_168)
                exact K_171 () ls hf (lv_sub hl [6, 7, 8, 4] rfl)
    · have hf : f_X7_interval S x1 x2 x3 x4 = (f_X7_interval_9 (f_X7_no S w_1)) := hf.trans (if_neg c_54)
      refine lv_aload_n hx hb dX7_interval_57 rfl (lv_at hl 1 rfl) ?_
      refine lv_iload hx hb dX7_interval_58 (lv_at hl 0 rfl) ?_
      have hFc := va_free (wc := mWs o r cI cJ S) hD hS hA [0, 1, 2, 3, 4, 5, 6, 7, 8, 9, 10, 11, 12, 13, 14, 15, 16] rfl
      refine va_calli (va_runV (As := [.int w_1]) (rest := []) ⟨hx, hb, hml, hown, hts⟩ (c_X7_no l dC dI o r cI cJ s.heap.size S w_1) (cwV 1 hts (gV iX7_no (zin__r4 (.methodLink RX7 139 yX7_no) (List.mem_of_getElem? (i := 14) rfl))) rfl rfl rfl (by decide +kernel) ⟨Nat.le_of_ble_eq_true rfl, Nat.le_of_ble_eq_true rfl⟩) ⟨fun a U g mk q => ⟨q.1, mB_bl q.2⟩, mW_rv hw, fun U hU hW => ⟨rfl, mB_mv hw hD hU hW⟩⟩ rfl rfl hl.1 rfl (lv_room (Nat.le_of_ble_eq_true rfl)) dX7_interval_60 ⟨Nat.zero_le _, Nat.zero_le _⟩) hS (fun q _ h => hFc q h) hFc (fun r_60 S_23 t H1 locs ht hvm hw1 hB hz1 hk1 hS => ?_)
      obtain ⟨hP, -, hD1⟩ := hB
      rw [ht] at hP
      have hD := hD1.weaken (fun k q _ h => hFc q.1 h)
      generalize H1 = H at hP hS ⊢
      have hw : mH dC dI o r cI cJ S_23 s H := ⟨hP, hK⟩
      have hm := mA_of hts hw
      have hf : f_X7_interval S x1 x2 x3 x4 = (r_60, S_23) := hf.trans (congrArg (fun z => (f_X7_interval_9 z)) hw1.symm)
      exact W.iret hx hb hr (fun t ht hW => ⟨⟨_, S_23, rfl, hf.symm, by rw [ht]; exact hP, va_K.moved hW.alike hK, hD⟩, hS.F ht⟩) hS.2.2 dX7_interval_63
  refine lv_if_lt (tgt := 12) hx hb dX7_interval_1 (by decide) (fun c_1 => ?_) (fun c_1 => ?_)
  · have hf : f_X7_interval S x1 x2 x3 x4 = (f_X7_interval_18 (1 : Int32) S x1 x2 x3 x4) := hf.trans (if_pos c_1)
    refine lv_iconst (v := 1) hx hb dX7_interval_12 (by decide) ?_
    refine lv_goto (tgt := 50) hx hb dX7_interval_13 (by decide) ?_
    exact K_50 (1 : Int32) ls ⟨hf, (Or.inl (by decide))⟩ (lv_sub hl [0, 1, 2, 3, 4] rfl)
  · have hf : f_X7_interval S x1 x2 x3 x4 = (f_X7_interval_23 x1 S x2 x3 x4) := hf.trans (if_neg c_1)
    refine lv_iload_n hx hb dX7_interval_4 rfl (lv_at hl 1 rfl) ?_
    refine lv_aload_n hx hb dX7_interval_5 rfl (lv_at hl 0 rfl) ?_
    refine va_get (D := (dC, dI)) (ci := 5) (v := .int (nI (mn S))) (C := RX7) (T := TX7) (N := 18) hx hb hts zin_X7 hown hK hP 0 rfl rfl 16 (by decide) (hts _ (zin__r4 (.fieldLink RX7 79 "ReckonBenchModel" "rows" "I") (List.mem_of_getElem? (i := 12) rfl))) (fun _ h9 => h9) rfl dX7_interval_6 ?_
    refine lv_icmp_lt (tgt := 16) hx hb dX7_interval_9 (by decide) (fun c_9 => ?_) (fun c_9 => ?_)
    · have hf : f_X7_interval S x1 x2 x3 x4 = (f_X7_interval_22 S x1 x2 x3 x4) := hf.trans (if_pos c_9)
      refine lv_aload_n hx hb dX7_interval_16 rfl (lv_at hl 0 rfl) ?_
      refine lv_iload_n hx hb dX7_interval_17 rfl (lv_at hl 1 rfl) ?_
      refine lv_iload_n hx hb dX7_interval_18 rfl (lv_at hl 2 rfl) ?_
      refine vp_callSi (va_Run.run (va_runV (As := [.int x1, .int x2]) (rest := []) ⟨hx, hb, hml, hown, hts⟩ (c_X7_noPair l dC dI o r cI cJ S x1 x2 hI (row_of hI c_1 c_9)) (cwV 2 hts (gV iX7_noPair (zin__r29 (.methodLink RX7 222 yX7_noPair) (List.mem_of_getElem? (i := 23) rfl))) rfl rfl rfl (by decide +kernel) ⟨Nat.le_of_ble_eq_true rfl, Nat.le_of_ble_eq_true rfl⟩) ⟨fun a U g mk q => ⟨q.1, mW_bl q.2⟩, (mW_rv hw), fun U hU hW => ⟨rfl, mW_mv hw hU hW⟩⟩ rfl rfl hl.1 rfl (lv_room (Nat.le_of_ble_eq_true rfl)) dX7_interval_19 ⟨Nat.zero_le _, Nat.zero_le _⟩)) (fun r_19 hr_19 => ?_)
      subst hr_19
      refine lv_if_ne (tgt := 45) hx hb dX7_interval_22 (by decide) (fun c_22 => ?_) (fun c_22 => ?_)
      · have hf : f_X7_interval S x1 x2 x3 x4 = (f_X7_interval_18 (2 : Int32) S x1 x2 x3 x4) := hf.trans (if_neg c_22)
        refine lv_iconst (v := 2) hx hb dX7_interval_45 (by decide) ?_
        refine lv_goto (tgt := 50) hx hb dX7_interval_46 (by decide) ?_
        exact K_50 (2 : Int32) ls ⟨hf, (Or.inl (by decide))⟩ (lv_sub hl [0, 1, 2, 3, 4] rfl)
      · have hf : f_X7_interval S x1 x2 x3 x4 = (f_X7_interval_21 S x1 x3 x4 x2) := hf.trans (if_pos c_22)
        refine lv_aload_n hx hb dX7_interval_25 rfl (lv_at hl 0 rfl) ?_
        refine lv_iload_n hx hb dX7_interval_26 rfl (lv_at hl 1 rfl) ?_
        refine lv_iload_n hx hb dX7_interval_27 rfl (lv_at hl 3 rfl) ?_
        refine vp_callSi (va_Run.run (va_runV (As := [.int x1, .int x3]) (rest := []) ⟨hx, hb, hml, hown, hts⟩ (c_X7_noPair l dC dI o r cI cJ S x1 x3 hI (row_of hI c_1 c_9)) (cwV 2 hts (gV iX7_noPair (zin__r29 (.methodLink RX7 222 yX7_noPair) (List.mem_of_getElem? (i := 23) rfl))) rfl rfl rfl (by decide +kernel) ⟨Nat.le_of_ble_eq_true rfl, Nat.le_of_ble_eq_true rfl⟩) ⟨fun a U g mk q => ⟨q.1, mW_bl q.2⟩, (mW_rv hw), fun U hU hW => ⟨rfl, mW_mv hw hU hW⟩⟩ rfl rfl hl.1 rfl (lv_room (Nat.le_of_ble_eq_true rfl)) dX7_interval_28 ⟨Nat.zero_le _, Nat.zero_le _⟩)) (fun r_28 hr_28 => ?_)
        subst hr_28
        refine lv_if_ne (tgt := 45) hx hb dX7_interval_31 (by decide) (fun c_31 => ?_) (fun c_31 => ?_)
        · have hf : f_X7_interval S x1 x2 x3 x4 = (f_X7_interval_18 (2 : Int32) S x1 x2 x3 x4) := hf.trans (if_neg c_31)
          refine lv_iconst (v := 2) hx hb dX7_interval_45 (by decide) ?_
          refine lv_goto (tgt := 50) hx hb dX7_interval_46 (by decide) ?_
          exact K_50 (2 : Int32) ls ⟨hf, (Or.inl (by decide))⟩ (lv_sub hl [0, 1, 2, 3, 4] rfl)
        · have hf : f_X7_interval S x1 x2 x3 x4 = (f_X7_interval_20 x4 S x1 x2 x3) := hf.trans (if_pos c_31)
          refine lv_iload hx hb dX7_interval_34 (lv_at hl 4 rfl) ?_
          refine lv_if_lt (tgt := 45) hx hb dX7_interval_36 (by decide) (fun c_36 => ?_) (fun c_36 => ?_)
          · have hf : f_X7_interval S x1 x2 x3 x4 = (f_X7_interval_18 (2 : Int32) S x1 x2 x3 x4) := hf.trans (if_pos c_36)
            refine lv_iconst (v := 2) hx hb dX7_interval_45 (by decide) ?_
            refine lv_goto (tgt := 50) hx hb dX7_interval_46 (by decide) ?_
            exact K_50 (2 : Int32) ls ⟨hf, (Or.inl (by decide))⟩ (lv_sub hl [0, 1, 2, 3, 4] rfl)
          · have hf : f_X7_interval S x1 x2 x3 x4 = (f_X7_interval_19 x4 S x1 x2 x3) := hf.trans (if_neg c_36)
            refine lv_iload hx hb dX7_interval_39 (lv_at hl 4 rfl) ?_
            refine lv_iconst (v := 5) hx hb dX7_interval_41 (by decide) ?_
            refine lv_icmp_le (tgt := 49) hx hb dX7_interval_42 (by decide) (fun c_42 => ?_) (fun c_42 => ?_)
            · have hf : f_X7_interval S x1 x2 x3 x4 = (f_X7_interval_18 (0 : Int32) S x1 x2 x3 x4) := hf.trans (if_pos c_42)
              refine lv_iconst (v := 0) hx hb dX7_interval_49 (by decide) ?_
              exact K_50 (0 : Int32) ls ⟨hf, (Or.inr ⟨pair_ok hI (row_of hI c_1 c_9) c_22, pair_ok hI (row_of hI c_1 c_9) c_31⟩)⟩ (lv_sub hl [0, 1, 2, 3, 4] rfl)
            · have hf : f_X7_interval S x1 x2 x3 x4 = (f_X7_interval_18 (2 : Int32) S x1 x2 x3 x4) := hf.trans (if_neg c_42)
              refine lv_iconst (v := 2) hx hb dX7_interval_45 (by decide) ?_
              refine lv_goto (tgt := 50) hx hb dX7_interval_46 (by decide) ?_
              exact K_50 (2 : Int32) ls ⟨hf, (Or.inl (by decide))⟩ (lv_sub hl [0, 1, 2, 3, 4] rfl)
    · have hf : f_X7_interval S x1 x2 x3 x4 = (f_X7_interval_18 (1 : Int32) S x1 x2 x3 x4) := hf.trans (if_neg c_9)
      refine lv_iconst (v := 1) hx hb dX7_interval_12 (by decide) ?_
      refine lv_goto (tgt := 50) hx hb dX7_interval_13 (by decide) ?_
      exact K_50 (1 : Int32) ls ⟨hf, (Or.inl (by decide))⟩ (lv_sub hl [0, 1, 2, 3, 4] rfl)
