def f_X7_sum_1 (rec_70 : Int64 → Int64 → Int32 → (Int64 × MSt)) (v11_4 : Int64) (S_2 : MSt) (x1 : Int32) (q4 : Int64) (w_3 : Int64) (q8 : Int32) : Int64 × MSt := (rec_70 v11_4 (f_X7_plus (mk S_2 x1.toNatClampNeg) (f_X7_plus (mk S_2 x1.toNatClampNeg) v11_4 (f_X7_turned (mk S_2 x1.toNatClampNeg) q4)) (f_X7_turned (mk S_2 x1.toNatClampNeg) w_3)) (q8 + (1 : Int32)))
def f_X7_sum_2 (rec_70 : Int64 → Int64 → Int32 → (Int64 × MSt)) (S_2 : MSt) (x1 : Int32) (q4 : Int64) (w_3 : Int64) (q8 : Int32) : Int64 × MSt := (f_X7_sum_1 rec_70 (f_X7_plus (mk S_2 x1.toNatClampNeg) q4 w_3) S_2 x1 q4 w_3 q8)
def f_X7_sum_3 (x2 : Int32) (rec_70 : Int64 → Int64 → Int32 → (Int64 × MSt)) (S_2 : MSt) (x1 : Int32) (q4 : Int64) (q8 : Int32) (q6 : Int64) : Int64 × MSt := if x2 = 0 then (f_X7_sum_2 rec_70 S_2 x1 q4 (f_X7_at S_2 x1 q8) q8) else (f_X7_sum_2 rec_70 S_2 x1 q4 (f_X7_plus (mk S_2 x1.toNatClampNeg) (f_X7_at S_2 x1 q8) (f_X7_turned (mk S_2 x1.toNatClampNeg) q6)) q8)
def f_X7_sum_4 (S_2 : MSt) (x1 : Int32) (q8 : Int32) (q4 : Int64) (x2 : Int32) (rec_70 : Int64 → Int64 → Int32 → (Int64 × MSt)) (q6 : Int64) : Int64 × MSt := if (f_X7_size S_2 x1) ≤ q8 then (q4, S_2) else (f_X7_sum_3 x2 rec_70 S_2 x1 q4 q8 q6)
def f_X7_sum_L70 (x1 : Int32) (x2 : Int32) (S_2 : MSt) : Nat → Int64 → Int64 → Int32 → Int64 × MSt
  | 0, _, _, _ => default
  | n + 1, q4, q6, q8 => (f_X7_sum_4 S_2 x1 q8 q4 x2 (f_X7_sum_L70 x1 x2 S_2 n) q6)
def f_X7_sum_6 (p9 : Int64 × MSt) : Int64 × MSt := (p9.1, p9.2)
def f_X7_sum_7 (x2 : Int32) (S_2 : MSt) (x1 : Int32) : Int64 × MSt := if x2 = (2 : Int32) then (f_X7_sum_6 (f_X7_halves S_2 x1)) else (f_X7_sum_L70 x1 x2 S_2 501 (0 : Int64) (0 : Int64) (0 : Int32))
def f_X7_sum_8 (S_2 : MSt) (x2 : Int32) (x1 : Int32) : Int64 × MSt := if (ms S_2) ≤ 0 then (f_X7_sum_7 x2 S_2 x1) else ((0 : Int64), S_2)
def f_X7_sum_9 (S : MSt) (w_1 : Int32) (x2 : Int32) (x1 : Int32) : Int64 × MSt := (f_X7_sum_8 (mset_s S w_1) x2 x1)
def f_X7_sum_10 (x2 : Int32) (S : MSt) (x1 : Int32) : Int64 × MSt := if x2 ≤ (2 : Int32) then (f_X7_sum_9 S (0 : Int32) x2 x1) else (f_X7_sum_9 S (2 : Int32) x2 x1)
def f_X7_sum_11 (x2 : Int32) (S : MSt) (x1 : Int32) : Int64 × MSt := if x2 < 0 then (f_X7_sum_9 S (2 : Int32) x2 x1) else (f_X7_sum_10 x2 S x1)
def f_X7_sum_12 (x1 : Int32) (S : MSt) (x2 : Int32) : Int64 × MSt := if x1 < (nI (mn S)) then (f_X7_sum_11 x2 S x1) else (f_X7_sum_9 S (1 : Int32) x2 x1)
def f_X7_sum_13 (x1 : Int32) (S : MSt) (x2 : Int32) : Int64 × MSt := if x1 < 0 then (f_X7_sum_9 S (1 : Int32) x2 x1) else (f_X7_sum_12 x1 S x2)
def f_X7_sum (S : MSt) (x1 : Int32) (x2 : Int32) : Int64 × MSt := (f_X7_sum_13 x1 S x2)
def zX7_sum : List Cond := .code yX7_sum cX7_sum 13 (some .long) :: zall
theorem iX7_sum : MWv RX7 yX7_sum (.code yX7_sum cX7_sum 13 (some .long)) := ⟨(zin__r25 (.instanceMethod yX7_sum) (List.mem_of_getElem? (i := 9) rfl)), (zin__r25 (.selects RX7 yX7_sum yX7_sum) (List.mem_of_getElem? (i := 10) rfl)), (zin__r1 (.initialized RX7) (List.mem_of_getElem? (i := 5) rfl)), (zin__r25 (.code yX7_sum cX7_sum 13 (some .long)) (List.mem_of_getElem? (i := 11) rfl))⟩
set_option maxHeartbeats 4000000 in
set_option maxRecDepth 100000 in
theorem c_X7_sum (l : Launch) (dC : Nat → ClassId) (dI : Nat → Nat → Nat) (o : Nat) (r : Nat → Nat) (cI cJ : ClassId) (sz : Nat) (S : MSt) (x1 : Int32) (x2 : Int32) (hI : mInv S) : Met l yX7_sum zX7_sum ({ frames := 5, cells := 0, slots := 0, locals := 145 }) (va_Pc [.ref o, .int x1, .int x2] (fun U => mB dC dI o r cI cJ sz S U)) (va_Ql (fun r9 S9 => (r9, S9) = f_X7_sum S x1 x2) (mE dC dI o r cI cJ (va_A (mWs o r cI cJ S) sz)) (va_A (mWs o r cI cJ S) sz)) 0 0 (va_A (mWs o r cI cJ S) sz) := by
  refine Met.ofW (cc := cX7_sum) (maxL := 13) (ret := (some .long)) (by decide) rfl ?_
  intro p e s m args below meth c s₁ B hml hv
  obtain ⟨rfl, hsz, hP, hK, hD0⟩ := hv
  have hx := B.exec
  have hb := B.bytes
  have hr := B.returns
  have hts : ∀ w ∈ zall, w.before _ s = true := fun w h => atoms_spec (ws := zX7_sum) B.pre w (List.mem_cons_of_mem _ h)
  have hown : s.vm.findClass RX7 = some m.cls := findClass_of_methodNamed B.named
  have hlocks := B.notSynchronized
  subst hsz
  have hD := hD0.self (sz := s.heap.size)
  generalize hAe : va_A (mWs o r cI cJ S) s.heap.size = A at hD ⊢
  have hA : ∀ q : Nat, s.heap.size ≤ q → A q := fun q h => by rw [← hAe]; exact Or.inr h
  have hS : va_S A s.heap s.heap [] := va_S.rf
  have hw : mH dC dI o r cI cJ S s s.heap := ⟨hP, hK⟩
  have hm := mA_of hts hw
  have hl := lv_entry ([.ref o, .int x1, .int x2]) (n := 13) (Nat.le_of_ble_eq_true rfl)
  rw [lg_entry_eq]
  generalize (lg_sl ([.ref o, .int x1, .int x2]) ++ List.replicate (13 - (lg_sl ([.ref o, .int x1, .int x2])).length) Slot.unset).toArray = ls at hl ⊢
  have hl : lv_has ls 13 [(0, .ref o), (1, .int x1), (2, .int x2)] := hl
  have hf : f_X7_sum S x1 x2 = (f_X7_sum_13 x1 S x2) := rfl
  refine lv_aload_n hx hb dX7_sum_0 rfl (lv_at hl 0 rfl) ?_
  refine lv_iload_n hx hb dX7_sum_1 rfl (lv_at hl 1 rfl) ?_
  refine W_cut (α := Int32) (pcJ := 31) (nL := 13) (fun v => f_X7_sum S x1 x2 = (f_X7_sum_9 S v x2 x1) ∧ (0 < v ∨ mRow S x1)) (fun v => [.int v, .ref o]) (fun v => [(0, .ref o), (1, .int x1), (2, .int x2)]) (fun w_1 ls hf hl => ?_) (fun K_31 => ?_)
  · obtain ⟨hf, hI_31⟩ : f_X7_sum S x1 x2 = (f_X7_sum_9 S w_1 x2 x1) ∧ (0 < w_1 ∨ mRow S x1) := hf
    have hf : f_X7_sum S x1 x2 = (f_X7_sum_8 (mset_s S w_1) x2 x1) := hf
    have hl : lv_has ls 13 [(0, .ref o), (1, .int x1), (2, .int x2)] := hl
    refine va_put (D := (dC, dI)) (ci := 5) (v := .int w_1) (ty := .int) (C := RX7) (T := TX7) (N := 18) hx hb hts zin_X7 tyX7 tyX7_ok nmX7 hown hK hP hD hS 0 rfl rfl 17 (by decide) (hts _ (zin__r4 (.fieldLink RX7 75 "ReckonBenchModel" "status" "I") (List.mem_of_getElem? (i := 13) rfl))) (fun _ h9 => h9) rfl (by decide +kernel) rfl rfl (Nat.le_of_ble_eq_true rfl) dX7_sum_31 (fun H locs hP hD hS => ?_)
    obtain ⟨S_2, e_S_2⟩ : ∃ z : MSt, z = (mset_s S w_1) := ⟨_, rfl⟩
    have hP : va_P (dC, dI) vwCl (mWs o r cI cJ S_2) H := by rw [e_S_2]; exact hP
    have hD : va_D A (mWs o r cI cJ S_2) := by rw [e_S_2]; exact hD
    have hw : mH dC dI o r cI cJ S_2 s H := ⟨hP, hK⟩
    have hm := mA_of hts hw
    have hI : mInv S_2 := by rw [e_S_2]; exact hI
    have hf : f_X7_sum S x1 x2 = (f_X7_sum_8 S_2 x2 x1) := hf.trans (congrArg (fun z => (f_X7_sum_8 z x2 x1)) e_S_2.symm)
    refine lv_aload_n hx hb dX7_sum_34 rfl (lv_at hl 0 rfl) ?_
    refine va_get (D := (dC, dI)) (ci := 5) (v := .int (ms S_2)) (C := RX7) (T := TX7) (N := 18) hx hb hts zin_X7 hown hK hP 0 rfl rfl 17 (by decide) (hts _ (zin__r4 (.fieldLink RX7 75 "ReckonBenchModel" "status" "I") (List.mem_of_getElem? (i := 13) rfl))) (fun _ h9 => h9) rfl dX7_sum_35 ?_
    refine lv_if_le (tgt := 43) hx hb dX7_sum_38 (by decide) (fun c_38 => ?_) (fun c_38 => ?_)
    · have hf : f_X7_sum S x1 x2 = (f_X7_sum_7 x2 S_2 x1) := hf.trans (if_pos c_38)
      have hR : mRow S_2 x1 := (by rcases hI_31 with h | h; exact absurd (by rw [e_S_2] at c_38; exact c_38) (pos_nle h); rw [e_S_2]; exact h)
      have hk9 : mk S_2 x1.toNatClampNeg < 2 := mRow.k hI hR
      refine lv_aload_n hx hb dX7_sum_43 rfl (lv_at hl 0 rfl) ?_
      refine va_get (D := (dC, dI)) (ci := 5) (v := .ref (r 8)) (C := RX7) (T := TX7) (N := 18) hx hb hts zin_X7 hown hK hP 0 rfl rfl 8 (by decide) (hts _ (zin__r3 (.fieldLink RX7 51 "ReckonBenchModel" "kinds" "[I") (List.mem_of_getElem? (i := 2) rfl))) (fun _ h9 => h9) rfl dX7_sum_44 ?_
      refine lv_iload_n hx hb dX7_sum_47 rfl (lv_at hl 1 rfl) ?_
      refine va_iald (f := fun j => nI (mk S_2 j)) hx hb hK hP 9 0 rfl rfl (mRow.in2 hI hR) dX7_sum_48 ?_
      refine lv_istore_n (lv' := [(3, .int (nI (mk S_2 x1.toNatClampNeg))), (0, .ref o), (1, .int x1), (2, .int x2)]) hx hb dX7_sum_49 rfl hl (by decide) rfl (fun ls hl => ?_)
      refine lv_iload_n hx hb dX7_sum_50 rfl (lv_at hl 3 rfl) ?_
      refine lv_iconst (v := 2) hx hb dX7_sum_51 (by decide) ?_
      refine lv_icmp_ne (tgt := 61) hx hb dX7_sum_52 (by decide) (fun c_52 => ?_) (fun c_52 => ?_)
      · have hf : f_X7_sum S x1 x2 = (f_X7_sum_L70 x1 x2 S_2 501 (0 : Int64) (0 : Int64) (0 : Int32)) := hf.trans (if_neg c_52)
        refine lv_lconst (v := 0) hx hb dX7_sum_61 (by decide) ?_
        refine lv_lstore (lv' := [(4, .long (0 : Int64)), (3, .int (nI (mk S_2 x1.toNatClampNeg))), (0, .ref o), (1, .int x1), (2, .int x2)]) hx hb dX7_sum_62 hl (by decide) rfl (fun ls hl => ?_)
        refine lv_lconst (v := 0) hx hb dX7_sum_64 (by decide) ?_
        refine lv_lstore (lv' := [(6, .long (0 : Int64)), (4, .long (0 : Int64)), (3, .int (nI (mk S_2 x1.toNatClampNeg))), (0, .ref o), (1, .int x1), (2, .int x2)]) hx hb dX7_sum_65 hl (by decide) rfl (fun ls hl => ?_)
        refine lv_iconst (v := 0) hx hb dX7_sum_67 (by decide) ?_
        refine lv_istore (lv' := [(8, .int (0 : Int32)), (6, .long (0 : Int64)), (4, .long (0 : Int64)), (3, .int (nI (mk S_2 x1.toNatClampNeg))), (0, .ref o), (1, .int x1), (2, .int x2)]) hx hb dX7_sum_68 hl (by decide) rfl (fun ls hl => ?_)
        refine W_loop (α := Int64 × Int64 × Int32) (pcJ := 70) (nL := 13) (fun n v => f_X7_sum S x1 x2 = f_X7_sum_L70 x1 x2 S_2 n v.1 v.2.1 v.2.2 ∧ (sInv (mk S_2 x1.toNatClampNeg) v.1 v.2.1 v.2.2 n)) (fun v => []) (fun v => [(0, .ref o), (1, .int x1), (2, .int x2), (3, .int (nI (mk S_2 x1.toNatClampNeg))), (4, .long v.1), (6, .long v.2.1), (8, .int v.2.2)]) (fun v hC => ?_) (fun n_70 ih_70 v ls hC hl => ?_) 501 ((0 : Int64), (0 : Int64), (0 : Int32)) ls ⟨hf, (sInv.init hk9)⟩ (lv_sub hl [4, 5, 6, 3, 2, 1, 0] rfl)
        · obtain ⟨q4, q6, q8⟩ := v
          have hJ : (sInv (mk S_2 x1.toNatClampNeg) q4 q6 q8 (0 : Nat)) := hC.2
          exact gInv.zero hJ.1
        · obtain ⟨q4, q6, q8⟩ := v
          obtain ⟨hf, hJ⟩ : (f_X7_sum S x1 x2 = f_X7_sum_L70 x1 x2 S_2 (n_70 + 1) q4 q6 q8) ∧ (sInv (mk S_2 x1.toNatClampNeg) q4 q6 q8 (Nat.succ n_70)) := hC
          obtain ⟨rec_70, hrec_70⟩ : ∃ z, z = f_X7_sum_L70 x1 x2 S_2 n_70 := ⟨_, rfl⟩
          have hf : f_X7_sum S x1 x2 = (f_X7_sum_4 S_2 x1 q8 q4 x2 rec_70 q6) := by rw [hrec_70]; exact hf
          have hl : lv_has ls 13 [(0, .ref o), (1, .int x1), (2, .int x2), (3, .int (nI (mk S_2 x1.toNatClampNeg))), (4, .long q4), (6, .long q6), (8, .int q8)] := hl
          refine lv_iload hx hb dX7_sum_70 (lv_at hl 6 rfl) ?_
          refine lv_aload_n hx hb dX7_sum_72 rfl (lv_at hl 0 rfl) ?_
          refine lv_iload_n hx hb dX7_sum_73 rfl (lv_at hl 1 rfl) ?_
          refine vp_callSi (va_Run.run (va_runV (As := [.int x1]) (rest := [.int q8]) ⟨hx, hb, hml, hown, hts⟩ (c_X7_size l dC dI o r cI cJ S_2 x1 (mRow.in1 hI hR) (mRow.in0 hI hR)) (cwV 1 hts (gV iX7_size (zin__r6 (.methodLink RX7 82 yX7_size) (List.mem_of_getElem? (i := 19) rfl))) rfl rfl rfl (by decide +kernel) ⟨Nat.le_of_ble_eq_true rfl, Nat.le_of_ble_eq_true rfl⟩) ⟨fun a U g mk q => ⟨q.1, mW_bl q.2⟩, (mW_rv hw), fun U hU hW => ⟨rfl, mW_mv hw hU hW⟩⟩ rfl rfl hl.1 rfl (lv_room (Nat.le_of_ble_eq_true rfl)) dX7_sum_74 ⟨Nat.zero_le _, Nat.zero_le _⟩)) (fun r_74 hr_74 => ?_)
          subst hr_74
          refine lv_icmp_ge (tgt := 164) hx hb dX7_sum_77 (by decide) (fun c_77 => ?_) (fun c_77 => ?_)
          · have hf : f_X7_sum S x1 x2 = (q4, S_2) := hf.trans (if_pos c_77)
            refine lv_lload hx hb dX7_sum_164 (lv_at hl 4 rfl) ?_
            exact W.lret hx hb hr (fun t ht hW => ⟨⟨_, S_2, rfl, hf.symm, by rw [ht]; exact hP, va_K.moved hW.alike hK, hD⟩, hS.F ht⟩) hS.2.2 dX7_sum_166
          · have hf : f_X7_sum S x1 x2 = (f_X7_sum_3 x2 rec_70 S_2 x1 q4 q8 q6) := hf.trans (if_neg c_77)
            have h8 : mPl S_2 x1 q8 := gInv.pl hI hR hJ.1 c_77
            refine lv_iload_n hx hb dX7_sum_80 rfl (lv_at hl 2 rfl) ?_
            refine W_cut (α := Int64) (pcJ := 113) (nL := 13) (fun v => f_X7_sum S x1 x2 = (f_X7_sum_2 rec_70 S_2 x1 q4 v q8) ∧ (kcn (mk S_2 x1.toNatClampNeg) v)) (fun v => [.long v]) (fun v => [(0, .ref o), (1, .int x1), (2, .int x2), (3, .int (nI (mk S_2 x1.toNatClampNeg))), (4, .long q4), (8, .int q8)]) (fun w_3 ls hf hl => ?_) (fun K_113 => ?_)
            · obtain ⟨hf, hI_113⟩ : f_X7_sum S x1 x2 = (f_X7_sum_2 rec_70 S_2 x1 q4 w_3 q8) ∧ (kcn (mk S_2 x1.toNatClampNeg) w_3) := hf
              have hf : f_X7_sum S x1 x2 = (f_X7_sum_1 rec_70 (f_X7_plus (mk S_2 x1.toNatClampNeg) q4 w_3) S_2 x1 q4 w_3 q8) := hf
              have hl : lv_has ls 13 [(0, .ref o), (1, .int x1), (2, .int x2), (3, .int (nI (mk S_2 x1.toNatClampNeg))), (4, .long q4), (8, .int q8)] := hl
              refine lv_lstore (lv' := [(9, .long w_3), (0, .ref o), (1, .int x1), (2, .int x2), (3, .int (nI (mk S_2 x1.toNatClampNeg))), (4, .long q4), (8, .int q8)]) hx hb dX7_sum_113 hl (by decide) rfl (fun ls hl => ?_)
              have hy : kcn (mk S_2 x1.toNatClampNeg) w_3 := hI_113
              refine lv_aload_n hx hb dX7_sum_115 rfl (lv_at hl 1 rfl) ?_
              refine lv_iload_n hx hb dX7_sum_116 rfl (lv_at hl 4 rfl) ?_
              refine lv_lload hx hb dX7_sum_117 (lv_at hl 5 rfl) ?_
              refine lv_lload hx hb dX7_sum_119 (lv_at hl 0 rfl) ?_
              refine vp_callSl (va_Run.run (va_runV (As := [.int (nI (mk S_2 x1.toNatClampNeg)), .long q4, .long w_3]) (rest := []) ⟨hx, hb, hml, hown, hts⟩ (c_X7_plus l o r (mk S_2 x1.toNatClampNeg) hk9 q4 w_3 hJ.2.1 hy) (cwV 3 hts (gV iX7_plus (zin__r21 (.methodLink RX7 197 yX7_plus) (List.mem_of_getElem? (i := 2) rfl))) rfl rfl rfl (by decide +kernel) ⟨Nat.le_of_ble_eq_true rfl, Nat.le_of_ble_eq_true rfl⟩) ⟨fun a U g mk q => ⟨q.1, mU_bl q.2⟩, (mW_rv hw), fun U hU hW => ⟨rfl, mU_mvH hm hU hW⟩⟩ rfl rfl hl.1 rfl (lv_room (Nat.le_of_ble_eq_true rfl)) dX7_sum_121 ⟨Nat.zero_le _, Nat.zero_le _⟩)) (fun r_121 hr_121 => ?_)
              subst hr_121
              refine lv_topl (fun v11_4 e_v11_4 => ?_)
              have hf : f_X7_sum S x1 x2 = (f_X7_sum_1 rec_70 v11_4 S_2 x1 q4 w_3 q8) := hf.trans (congrArg (fun z => (f_X7_sum_1 rec_70 z S_2 x1 q4 w_3 q8)) e_v11_4.symm)
              refine lv_lstore (lv' := [(11, .long v11_4), (9, .long w_3), (0, .ref o), (1, .int x1), (2, .int x2), (3, .int (nI (mk S_2 x1.toNatClampNeg))), (4, .long q4), (8, .int q8)]) hx hb dX7_sum_124 hl (by decide) rfl (fun ls hl => ?_)
              have ht : kcn (mk S_2 x1.toNatClampNeg) v11_4 := (by rw [e_v11_4]; exact plus_clean hk9 hJ.2.1 hy)
              refine lv_aload_n hx hb dX7_sum_126 rfl (lv_at hl 2 rfl) ?_
              refine lv_iload_n hx hb dX7_sum_127 rfl (lv_at hl 5 rfl) ?_
              refine lv_aload_n hx hb dX7_sum_128 rfl (lv_at hl 2 rfl) ?_
              refine lv_iload_n hx hb dX7_sum_129 rfl (lv_at hl 5 rfl) ?_
              refine lv_lload hx hb dX7_sum_130 (lv_at hl 0 rfl) ?_
              refine lv_aload_n hx hb dX7_sum_132 rfl (lv_at hl 2 rfl) ?_
              refine lv_iload_n hx hb dX7_sum_133 rfl (lv_at hl 5 rfl) ?_
              refine lv_lload hx hb dX7_sum_134 (lv_at hl 6 rfl) ?_
              refine vp_callSl (va_Run.run (va_runV (As := [.int (nI (mk S_2 x1.toNatClampNeg)), .long q4]) (rest := [.long v11_4, .int (nI (mk S_2 x1.toNatClampNeg)), .ref o, .int (nI (mk S_2 x1.toNatClampNeg)), .ref o]) ⟨hx, hb, hml, hown, hts⟩ (c_X7_turned l o r (mk S_2 x1.toNatClampNeg) hk9 q4) (cwV 2 hts (gV iX7_turned (zin__r21 (.methodLink RX7 200 yX7_turned) (List.mem_of_getElem? (i := 10) rfl))) rfl rfl rfl (by decide +kernel) ⟨Nat.le_of_ble_eq_true rfl, Nat.le_of_ble_eq_true rfl⟩) ⟨fun a U g mk q => ⟨q.1, mU_bl q.2⟩, (mW_rv hw), fun U hU hW => ⟨rfl, mU_mvH hm hU hW⟩⟩ rfl rfl hl.1 rfl (lv_room (Nat.le_of_ble_eq_true rfl)) dX7_sum_136 ⟨Nat.zero_le _, Nat.zero_le _⟩)) (fun r_136 hr_136 => ?_)
              subst hr_136
              refine vp_callSl (va_Run.run (va_runV (As := [.int (nI (mk S_2 x1.toNatClampNeg)), .long v11_4, .long (f_X7_turned (mk S_2 x1.toNatClampNeg) q4)]) (rest := [.int (nI (mk S_2 x1.toNatClampNeg)), .ref o]) ⟨hx, hb, hml, hown, hts⟩ (c_X7_plus l o r (mk S_2 x1.toNatClampNeg) hk9 v11_4 (f_X7_turned (mk S_2 x1.toNatClampNeg) q4) ht (kcn_turned hk9 hJ.2.1)) (cwV 3 hts (gV iX7_plus (zin__r21 (.methodLink RX7 197 yX7_plus) (List.mem_of_getElem? (i := 2) rfl))) rfl rfl rfl (by decide +kernel) ⟨Nat.le_of_ble_eq_true rfl, Nat.le_of_ble_eq_true rfl⟩) ⟨fun a U g mk q => ⟨q.1, mU_bl q.2⟩, (mW_rv hw), fun U hU hW => ⟨rfl, mU_mvH hm hU hW⟩⟩ rfl rfl hl.1 rfl (lv_room (Nat.le_of_ble_eq_true rfl)) dX7_sum_139 ⟨Nat.zero_le _, Nat.zero_le _⟩)) (fun r_139 hr_139 => ?_)
              subst hr_139
              refine lv_aload_n hx hb dX7_sum_142 rfl (lv_at hl 2 rfl) ?_
              refine lv_iload_n hx hb dX7_sum_143 rfl (lv_at hl 5 rfl) ?_
              refine lv_lload hx hb dX7_sum_144 (lv_at hl 1 rfl) ?_
              refine vp_callSl (va_Run.run (va_runV (As := [.int (nI (mk S_2 x1.toNatClampNeg)), .long w_3]) (rest := [.long (f_X7_plus (mk S_2 x1.toNatClampNeg) v11_4 (f_X7_turned (mk S_2 x1.toNatClampNeg) q4)), .int (nI (mk S_2 x1.toNatClampNeg)), .ref o]) ⟨hx, hb, hml, hown, hts⟩ (c_X7_turned l o r (mk S_2 x1.toNatClampNeg) hk9 w_3) (cwV 2 hts (gV iX7_turned (zin__r21 (.methodLink RX7 200 yX7_turned) (List.mem_of_getElem? (i := 10) rfl))) rfl rfl rfl (by decide +kernel) ⟨Nat.le_of_ble_eq_true rfl, Nat.le_of_ble_eq_true rfl⟩) ⟨fun a U g mk q => ⟨q.1, mU_bl q.2⟩, (mW_rv hw), fun U hU hW => ⟨rfl, mU_mvH hm hU hW⟩⟩ rfl rfl hl.1 rfl (lv_room (Nat.le_of_ble_eq_true rfl)) dX7_sum_146 ⟨Nat.zero_le _, Nat.zero_le _⟩)) (fun r_146 hr_146 => ?_)
              subst hr_146
              refine vp_callSl (va_Run.run (va_runV (As := [.int (nI (mk S_2 x1.toNatClampNeg)), .long (f_X7_plus (mk S_2 x1.toNatClampNeg) v11_4 (f_X7_turned (mk S_2 x1.toNatClampNeg) q4)), .long (f_X7_turned (mk S_2 x1.toNatClampNeg) w_3)]) (rest := []) ⟨hx, hb, hml, hown, hts⟩ (c_X7_plus l o r (mk S_2 x1.toNatClampNeg) hk9 (f_X7_plus (mk S_2 x1.toNatClampNeg) v11_4 (f_X7_turned (mk S_2 x1.toNatClampNeg) q4)) (f_X7_turned (mk S_2 x1.toNatClampNeg) w_3) (plus_clean hk9 ht (kcn_turned hk9 hJ.2.1)) (kcn_turned hk9 hy)) (cwV 3 hts (gV iX7_plus (zin__r21 (.methodLink RX7 197 yX7_plus) (List.mem_of_getElem? (i := 2) rfl))) rfl rfl rfl (by decide +kernel) ⟨Nat.le_of_ble_eq_true rfl, Nat.le_of_ble_eq_true rfl⟩) ⟨fun a U g mk q => ⟨q.1, mU_bl q.2⟩, (mW_rv hw), fun U hU hW => ⟨rfl, mU_mvH hm hU hW⟩⟩ rfl rfl hl.1 rfl (lv_room (Nat.le_of_ble_eq_true rfl)) dX7_sum_149 ⟨Nat.zero_le _, Nat.zero_le _⟩)) (fun r_149 hr_149 => ?_)
              subst hr_149
              refine lv_topl (fun v6_5 e_v6_5 => ?_)
              have hf : f_X7_sum S x1 x2 = (rec_70 v11_4 v6_5 (q8 + (1 : Int32))) := hf.trans (congrArg (fun z => (rec_70 v11_4 z (q8 + (1 : Int32)))) e_v6_5.symm)
              refine lv_lstore (lv' := [(6, .long v6_5), (11, .long v11_4), (9, .long w_3), (0, .ref o), (1, .int x1), (2, .int x2), (3, .int (nI (mk S_2 x1.toNatClampNeg))), (4, .long q4), (8, .int q8)]) hx hb dX7_sum_152 hl (by decide) rfl (fun ls hl => ?_)
              refine lv_lload hx hb dX7_sum_154 (lv_at hl 1 rfl) ?_
              refine lv_lstore (lv' := [(4, .long v11_4), (6, .long v6_5), (11, .long v11_4), (9, .long w_3), (0, .ref o), (1, .int x1), (2, .int x2), (3, .int (nI (mk S_2 x1.toNatClampNeg))), (8, .int q8)]) hx hb dX7_sum_156 hl (by decide) rfl (fun ls hl => ?_)
              obtain ⟨v8_6, e_v8_6⟩ : ∃ y : Int32, y = (q8 + (1 : Int32)) := ⟨_, rfl⟩
              refine lv_iinc (v := v8_6) (lv' := [(8, .int v8_6), (4, .long v11_4), (6, .long v6_5), (11, .long v11_4), (9, .long w_3), (0, .ref o), (1, .int x1), (2, .int x2), (3, .int (nI (mk S_2 x1.toNatClampNeg)))]) hx hb dX7_sum_158 hl (k := 8) rfl (by rw [e_v8_6]; rfl) (by decide) rfl (fun ls hl => ?_)
              have hf : f_X7_sum S x1 x2 = (rec_70 v11_4 v6_5 v8_6) := hf.trans (congrArg (fun z => (rec_70 v11_4 v6_5 z)) e_v8_6.symm)
              refine lv_goto (tgt := 70) hx hb dX7_sum_161 (by decide) ?_
              exact ih_70 (v11_4, v6_5, v8_6) ls ⟨hf.trans (congrFun (congrFun (congrFun hrec_70 _) _) _), ⟨by rw [e_v8_6]; exact gInv.next hI hJ.1 h8, (by exact ht), (by rw [e_v6_5]; exact plus_clean hk9 (plus_clean hk9 ht (kcn_turned hk9 hJ.2.1)) (kcn_turned hk9 hy))⟩⟩ (lv_sub hl [5, 6, 7, 8, 1, 2, 0] rfl)
            refine lv_if_ne (tgt := 94) hx hb dX7_sum_81 (by decide) (fun c_81 => ?_) (fun c_81 => ?_)
            · have hf : f_X7_sum S x1 x2 = (f_X7_sum_2 rec_70 S_2 x1 q4 (f_X7_plus (mk S_2 x1.toNatClampNeg) (f_X7_at S_2 x1 q8) (f_X7_turned (mk S_2 x1.toNatClampNeg) q6)) q8) := hf.trans (if_neg c_81)
              refine lv_aload_n hx hb dX7_sum_94 rfl (lv_at hl 0 rfl) ?_
              refine lv_iload_n hx hb dX7_sum_95 rfl (lv_at hl 3 rfl) ?_
              refine lv_aload_n hx hb dX7_sum_96 rfl (lv_at hl 0 rfl) ?_
              refine lv_iload_n hx hb dX7_sum_97 rfl (lv_at hl 1 rfl) ?_
              refine lv_iload hx hb dX7_sum_98 (lv_at hl 6 rfl) ?_
              refine vp_callSl (va_Run.run (va_runV (As := [.int x1, .int q8]) (rest := [.int (nI (mk S_2 x1.toNatClampNeg)), .ref o]) ⟨hx, hb, hml, hown, hts⟩ (c_X7_at l dC dI o r cI cJ S_2 x1 q8 (mRow.in0 hI (mPl.row h8)) (mPl.at hI h8)) (cwV 2 hts (gV iX7_at (zin__r11 (.methodLink RX7 155 yX7_at) (List.mem_of_getElem? (i := 2) rfl))) rfl rfl rfl (by decide +kernel) ⟨Nat.le_of_ble_eq_true rfl, Nat.le_of_ble_eq_true rfl⟩) ⟨fun a U g mk q => ⟨q.1, mW_bl q.2⟩, (mW_rv hw), fun U hU hW => ⟨rfl, mW_mv hw hU hW⟩⟩ rfl rfl hl.1 rfl (lv_room (Nat.le_of_ble_eq_true rfl)) dX7_sum_100 ⟨Nat.zero_le _, Nat.zero_le _⟩)) (fun r_100 hr_100 => ?_)
              subst hr_100
              refine lv_aload_n hx hb dX7_sum_103 rfl (lv_at hl 0 rfl) ?_
              refine lv_iload_n hx hb dX7_sum_104 rfl (lv_at hl 3 rfl) ?_
              refine lv_lload hx hb dX7_sum_105 (lv_at hl 5 rfl) ?_
              refine vp_callSl (va_Run.run (va_runV (As := [.int (nI (mk S_2 x1.toNatClampNeg)), .long q6]) (rest := [.long (f_X7_at S_2 x1 q8), .int (nI (mk S_2 x1.toNatClampNeg)), .ref o]) ⟨hx, hb, hml, hown, hts⟩ (c_X7_turned l o r (mk S_2 x1.toNatClampNeg) hk9 q6) (cwV 2 hts (gV iX7_turned (zin__r21 (.methodLink RX7 200 yX7_turned) (List.mem_of_getElem? (i := 10) rfl))) rfl rfl rfl (by decide +kernel) ⟨Nat.le_of_ble_eq_true rfl, Nat.le_of_ble_eq_true rfl⟩) ⟨fun a U g mk q => ⟨q.1, mU_bl q.2⟩, (mW_rv hw), fun U hU hW => ⟨rfl, mU_mvH hm hU hW⟩⟩ rfl rfl hl.1 rfl (lv_room (Nat.le_of_ble_eq_true rfl)) dX7_sum_107 ⟨Nat.zero_le _, Nat.zero_le _⟩)) (fun r_107 hr_107 => ?_)
              subst hr_107
              refine vp_callSl (va_Run.run (va_runV (As := [.int (nI (mk S_2 x1.toNatClampNeg)), .long (f_X7_at S_2 x1 q8), .long (f_X7_turned (mk S_2 x1.toNatClampNeg) q6)]) (rest := []) ⟨hx, hb, hml, hown, hts⟩ (c_X7_plus l o r (mk S_2 x1.toNatClampNeg) hk9 (f_X7_at S_2 x1 q8) (f_X7_turned (mk S_2 x1.toNatClampNeg) q6) (mPl.cln hI h8) (kcn_turned hk9 hJ.2.2)) (cwV 3 hts (gV iX7_plus (zin__r21 (.methodLink RX7 197 yX7_plus) (List.mem_of_getElem? (i := 2) rfl))) rfl rfl rfl (by decide +kernel) ⟨Nat.le_of_ble_eq_true rfl, Nat.le_of_ble_eq_true rfl⟩) ⟨fun a U g mk q => ⟨q.1, mU_bl q.2⟩, (mW_rv hw), fun U hU hW => ⟨rfl, mU_mvH hm hU hW⟩⟩ rfl rfl hl.1 rfl (lv_room (Nat.le_of_ble_eq_true rfl)) dX7_sum_110 ⟨Nat.zero_le _, Nat.zero_le _⟩)) (fun r_110 hr_110 => ?_)
              subst hr_110
              exact K_113 (f_X7_plus (mk S_2 x1.toNatClampNeg) (f_X7_at S_2 x1 q8) (f_X7_turned (mk S_2 x1.toNatClampNeg) q6)) ls ⟨hf, (plus_clean hk9 (mPl.cln hI h8) (kcn_turned hk9 hJ.2.2))⟩ (lv_sub hl [0, 1, 2, 3, 4, 6] rfl)
            · have hf : f_X7_sum S x1 x2 = (f_X7_sum_2 rec_70 S_2 x1 q4 (f_X7_at S_2 x1 q8) q8) := hf.trans (if_pos c_81)
              refine lv_aload_n hx hb dX7_sum_84 rfl (lv_at hl 0 rfl) ?_
              refine lv_iload_n hx hb dX7_sum_85 rfl (lv_at hl 1 rfl) ?_
              refine lv_iload hx hb dX7_sum_86 (lv_at hl 6 rfl) ?_
              refine vp_callSl (va_Run.run (va_runV (As := [.int x1, .int q8]) (rest := []) ⟨hx, hb, hml, hown, hts⟩ (c_X7_at l dC dI o r cI cJ S_2 x1 q8 (mRow.in0 hI (mPl.row h8)) (mPl.at hI h8)) (cwV 2 hts (gV iX7_at (zin__r11 (.methodLink RX7 155 yX7_at) (List.mem_of_getElem? (i := 2) rfl))) rfl rfl rfl (by decide +kernel) ⟨Nat.le_of_ble_eq_true rfl, Nat.le_of_ble_eq_true rfl⟩) ⟨fun a U g mk q => ⟨q.1, mW_bl q.2⟩, (mW_rv hw), fun U hU hW => ⟨rfl, mW_mv hw hU hW⟩⟩ rfl rfl hl.1 rfl (lv_room (Nat.le_of_ble_eq_true rfl)) dX7_sum_88 ⟨Nat.zero_le _, Nat.zero_le _⟩)) (fun r_88 hr_88 => ?_)
              subst hr_88
              refine lv_goto (tgt := 113) hx hb dX7_sum_91 (by decide) ?_
              exact K_113 (f_X7_at S_2 x1 q8) ls ⟨hf, (mPl.cln hI h8)⟩ (lv_sub hl [0, 1, 2, 3, 4, 6] rfl)
      · have hf : f_X7_sum S x1 x2 = (f_X7_sum_6 (f_X7_halves S_2 x1)) := hf.trans (if_pos c_52)
        refine lv_aload_n hx hb dX7_sum_55 rfl (lv_at hl 1 rfl) ?_
        refine lv_iload_n hx hb dX7_sum_56 rfl (lv_at hl 2 rfl) ?_
        have hFc := va_free (wc := mWs o r cI cJ S_2) hD hS hA [0, 1, 2, 3, 4, 5, 6, 7, 8, 9, 10, 11, 12, 13, 14, 15, 16] rfl
        refine va_calll (va_runV (As := [.int x1]) (rest := []) ⟨hx, hb, hml, hown, hts⟩ (c_X7_halves l dC dI o r cI cJ H.size S_2 x1 hI hR) (cwV 1 hts (gV iX7_halves (zin__r25 (.methodLink RX7 218 yX7_halves) (List.mem_of_getElem? (i := 12) rfl))) rfl rfl rfl (by decide +kernel) ⟨Nat.le_of_ble_eq_true rfl, Nat.le_of_ble_eq_true rfl⟩) ⟨fun a U g mk q => ⟨q.1, mB_bl q.2⟩, mW_rv hw, fun U hU hW => ⟨rfl, mB_mv hw hD hU hW⟩⟩ rfl rfl hl.1 rfl (lv_room (Nat.le_of_ble_eq_true rfl)) dX7_sum_57 ⟨Nat.zero_le _, Nat.zero_le _⟩) hS (fun q _ h => hFc q h) hFc (fun r_57 S_7 t H1 locs ht hvm hw1 hB hz1 hk1 hS => ?_)
        obtain ⟨hP, -, hD1⟩ := hB
        rw [ht] at hP
        have hD := hD1.weaken (fun k q _ h => hFc q.1 h)
        generalize H1 = H at hP hS ⊢
        have hw : mH dC dI o r cI cJ S_7 s H := ⟨hP, hK⟩
        have hm := mA_of hts hw
        have hf : f_X7_sum S x1 x2 = (r_57, S_7) := hf.trans (congrArg (fun z => (f_X7_sum_6 z)) hw1.symm)
        exact W.lret hx hb hr (fun t ht hW => ⟨⟨_, S_7, rfl, hf.symm, by rw [ht]; exact hP, va_K.moved hW.alike hK, hD⟩, hS.F ht⟩) hS.2.2 dX7_sum_60
    · have hf : f_X7_sum S x1 x2 = ((0 : Int64), S_2) := hf.trans (if_neg c_38)
      refine lv_lconst (v := 0) hx hb dX7_sum_41 (by decide) ?_
      exact W.lret hx hb hr (fun t ht hW => ⟨⟨_, S_2, rfl, hf.symm, by rw [ht]; exact hP, va_K.moved hW.alike hK, hD⟩, hS.F ht⟩) hS.2.2 dX7_sum_42
  refine lv_if_lt (tgt := 13) hx hb dX7_sum_2 (by decide) (fun c_2 => ?_) (fun c_2 => ?_)
  · have hf : f_X7_sum S x1 x2 = (f_X7_sum_9 S (1 : Int32) x2 x1) := hf.trans (if_pos c_2)
    refine lv_iconst (v := 1) hx hb dX7_sum_13 (by decide) ?_
    refine lv_goto (tgt := 31) hx hb dX7_sum_14 (by decide) ?_
    exact K_31 (1 : Int32) ls ⟨hf, (Or.inl (by decide))⟩ (lv_sub hl [0, 1, 2] rfl)
  · have hf : f_X7_sum S x1 x2 = (f_X7_sum_12 x1 S x2) := hf.trans (if_neg c_2)
    refine lv_iload_n hx hb dX7_sum_5 rfl (lv_at hl 1 rfl) ?_
    refine lv_aload_n hx hb dX7_sum_6 rfl (lv_at hl 0 rfl) ?_
    refine va_get (D := (dC, dI)) (ci := 5) (v := .int (nI (mn S))) (C := RX7) (T := TX7) (N := 18) hx hb hts zin_X7 hown hK hP 0 rfl rfl 16 (by decide) (hts _ (zin__r4 (.fieldLink RX7 79 "ReckonBenchModel" "rows" "I") (List.mem_of_getElem? (i := 12) rfl))) (fun _ h9 => h9) rfl dX7_sum_7 ?_
    refine lv_icmp_lt (tgt := 17) hx hb dX7_sum_10 (by decide) (fun c_10 => ?_) (fun c_10 => ?_)
    · have hf : f_X7_sum S x1 x2 = (f_X7_sum_11 x2 S x1) := hf.trans (if_pos c_10)
      refine lv_iload_n hx hb dX7_sum_17 rfl (lv_at hl 2 rfl) ?_
      refine lv_if_lt (tgt := 26) hx hb dX7_sum_18 (by decide) (fun c_18 => ?_) (fun c_18 => ?_)
      · have hf : f_X7_sum S x1 x2 = (f_X7_sum_9 S (2 : Int32) x2 x1) := hf.trans (if_pos c_18)
        refine lv_iconst (v := 2) hx hb dX7_sum_26 (by decide) ?_
        refine lv_goto (tgt := 31) hx hb dX7_sum_27 (by decide) ?_
        exact K_31 (2 : Int32) ls ⟨hf, (Or.inl (by decide))⟩ (lv_sub hl [0, 1, 2] rfl)
      · have hf : f_X7_sum S x1 x2 = (f_X7_sum_10 x2 S x1) := hf.trans (if_neg c_18)
        refine lv_iload_n hx hb dX7_sum_21 rfl (lv_at hl 2 rfl) ?_
        refine lv_iconst (v := 2) hx hb dX7_sum_22 (by decide) ?_
        refine lv_icmp_le (tgt := 30) hx hb dX7_sum_23 (by decide) (fun c_23 => ?_) (fun c_23 => ?_)
        · have hf : f_X7_sum S x1 x2 = (f_X7_sum_9 S (0 : Int32) x2 x1) := hf.trans (if_pos c_23)
          refine lv_iconst (v := 0) hx hb dX7_sum_30 (by decide) ?_
          exact K_31 (0 : Int32) ls ⟨hf, (Or.inr (row_of hI c_2 c_10))⟩ (lv_sub hl [0, 1, 2] rfl)
        · have hf : f_X7_sum S x1 x2 = (f_X7_sum_9 S (2 : Int32) x2 x1) := hf.trans (if_neg c_23)
          refine lv_iconst (v := 2) hx hb dX7_sum_26 (by decide) ?_
          refine lv_goto (tgt := 31) hx hb dX7_sum_27 (by decide) ?_
          exact K_31 (2 : Int32) ls ⟨hf, (Or.inl (by decide))⟩ (lv_sub hl [0, 1, 2] rfl)
    · have hf : f_X7_sum S x1 x2 = (f_X7_sum_9 S (1 : Int32) x2 x1) := hf.trans (if_neg c_10)
      refine lv_iconst (v := 1) hx hb dX7_sum_13 (by decide) ?_
      refine lv_goto (tgt := 31) hx hb dX7_sum_14 (by decide) ?_
      exact K_31 (1 : Int32) ls ⟨hf, (Or.inl (by decide))⟩ (lv_sub hl [0, 1, 2] rfl)
