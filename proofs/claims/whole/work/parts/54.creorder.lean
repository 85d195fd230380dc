def f_X4_reorder_1 (v4_1 : Int32) (q6 : Int32) (rec_24 : SSt → Int32 → (Int32 × SSt)) (rS : SSt) (q5 : Int32) (rec_34 : SSt → Int32 → (Int32 × SSt)) (w_k : Nat) (w_n : Nat) (x1 : Int32) : Int32 × SSt := if v4_1 ≤ q6 then (rec_24 (sset_f rS (va_cpy (sm rS) (sf rS) (0 : Int32).toNatClampNeg (0 : Int32).toNatClampNeg v4_1.toNatClampNeg)) (q5 * (2 : Int32))) else (rec_34 (f_X4_merge rS w_k w_n x1 q6 (jminI (q6 + q5) v4_1) (jminI (q6 + ((2 : Int32) * q5)) v4_1)) (q6 + ((2 : Int32) * q5)))
def f_X4_reorder_L34 (w_k : Nat) (w_n : Nat) (x1 : Int32) (v4_1 : Int32) (q5 : Int32) (rec_24 : SSt → Int32 → (Int32 × SSt)) : Nat → SSt → Int32 → Int32 × SSt
  | 0, _, _ => default
  | n + 1, rS, q6 => (f_X4_reorder_1 v4_1 q6 rec_24 rS q5 (f_X4_reorder_L34 w_k w_n x1 v4_1 q5 rec_24 n) w_k w_n x1)
def f_X4_reorder_3 (v4_1 : Int32) (q5 : Int32) (w_n : Nat) (qS : SSt) (w_k : Nat) (x1 : Int32) (rec_24 : SSt → Int32 → (Int32 × SSt)) : Int32 × SSt := if v4_1 ≤ q5 then ((f_X4_changed w_n (sf qS) (sb qS)), qS) else (f_X4_reorder_L34 w_k w_n x1 v4_1 q5 rec_24 502 qS (0 : Int32))
def f_X4_reorder_L24 (w_k : Nat) (w_n : Nat) (x1 : Int32) (v4_1 : Int32) : Nat → SSt → Int32 → Int32 × SSt
  | 0, _, _ => default
  | n + 1, qS, q5 => (f_X4_reorder_3 v4_1 q5 w_n qS w_k x1 (f_X4_reorder_L24 w_k w_n x1 v4_1 n))
def f_X4_reorder_5 (w_k : Nat) (w_n : Nat) (x1 : Int32) (v4_1 : Int32) (S : SSt) : Int32 × SSt := (f_X4_reorder_L24 w_k w_n x1 v4_1 10 (sset_b S (va_cpy (sf S) (sb S) (0 : Int32).toNatClampNeg (0 : Int32).toNatClampNeg v4_1.toNatClampNeg)) (1 : Int32))
def f_X4_reorder (S : SSt) (w_k : Nat) (w_n : Nat) (x1 : Int32) : Int32 × SSt := (f_X4_reorder_5 w_k w_n x1 (nI w_n) S)
def zX4_reorder : List Cond := .code yX4_reorder cX4_reorder 9 (some .int) :: zall
theorem iX4_reorder : MWv RX4 yX4_reorder (.code yX4_reorder cX4_reorder 9 (some .int)) := ⟨(zin__r16 (.instanceMethod yX4_reorder) (List.mem_of_getElem? (i := 0) rfl)), (zin__r16 (.selects RX4 yX4_reorder yX4_reorder) (List.mem_of_getElem? (i := 1) rfl)), (zin__r1 (.initialized RX4) (List.mem_of_getElem? (i := 17) rfl)), (zin__r16 (.code yX4_reorder cX4_reorder 9 (some .int)) (List.mem_of_getElem? (i := 2) rfl))⟩
set_option maxHeartbeats 4000000 in
set_option maxRecDepth 100000 in
theorem c_X4_reorder (l : Launch) (dC : Nat → ClassId) (dI : Nat → Nat → Nat) (ad : Nat → Nat) (w w_k w_na w_n : Nat) (h_w_k : w_k < 2) (so ba ma : Nat) (cJ : ClassId) (sz : Nat) (S : SSt) (x1 : Int32) (hn : w_n ≤ 500) : Met l yX4_reorder zX4_reorder ({ frames := 4, cells := 0, slots := 0, locals := 97 }) (va_Pc [.ref so, .ref w, .int x1] (fun U => sB dC dI ad w w_k w_na w_n so ba ma cJ sz S U)) (va_Qi (fun r9 S9 => (r9, S9) = f_X4_reorder S w_k w_n x1) (sE dC dI ad w w_k w_na w_n so ba ma cJ (va_A (sWs ad w w_k w_na w_n so ba ma cJ S) sz)) (va_A (sWs ad w w_k w_na w_n so ba ma cJ S) sz)) 0 0 (va_A (sWs ad w w_k w_na w_n so ba ma cJ S) sz) := by
  refine Met.ofW (cc := cX4_reorder) (maxL := 9) (ret := (some .int)) (by decide) rfl ?_
  intro p e s m args below meth c s₁ B hml hv
  obtain ⟨rfl, hsz, hP, hK, hD0, hkA⟩ := hv
  have hx := B.exec
  have hb := B.bytes
  have hr := B.returns
  have hts : ∀ w ∈ zall, w.before _ s = true := fun w h => atoms_spec (ws := zX4_reorder) B.pre w (List.mem_cons_of_mem _ h)
  have hown : s.vm.findClass RX4 = some m.cls := findClass_of_methodNamed B.named
  have hlocks := B.notSynchronized
  subst hsz
  have hD := hD0.self (sz := s.heap.size)
  generalize hAe : va_A (sWs ad w w_k w_na w_n so ba ma cJ S) s.heap.size = A at hD hkA ⊢
  have hA : ∀ q : Nat, s.heap.size ≤ q → A q := fun q h => by rw [← hAe]; exact Or.inr h
  have hS : va_S A s.heap s.heap [] := va_S.rf
  have hw : sH dC dI ad w w_k w_na w_n so ba ma cJ S s s.heap := ⟨hP, hK⟩
  have hk := kA_at hkA hS
  have hr_w := sR_of hts hw
  have hbe := sT_of hts hw
  have hl := lv_entry ([.ref so, .ref w, .int x1]) (n := 9) (Nat.le_of_ble_eq_true rfl)
  rw [lg_entry_eq]
  generalize (lg_sl ([.ref so, .ref w, .int x1]) ++ List.replicate (9 - (lg_sl ([.ref so, .ref w, .int x1])).length) Slot.unset).toArray = ls at hl ⊢
  have hl : lv_has ls 9 [(0, .ref so), (1, .ref w), (2, .int x1)] := hl
  have hf : f_X4_reorder S w_k w_n x1 = (f_X4_reorder_5 w_k w_n x1 (nI w_n) S) := rfl
  refine lv_aload_n hx hb dX4_reorder_0 rfl (lv_at hl 1 rfl) ?_
  refine gf_H hx hb hr_w.2.2.1 hown (hts _ (zin__r16 (.fieldLink RX4 18 "ReckonBench$Row" "numbers" "[J") (List.mem_of_getElem? (i := 3) rfl))) (fun _ h9 => h9) dX4_reorder_1 ?_
  refine lv_astore_n (lv' := [(3, .ref w_na), (0, .ref so), (1, .ref w), (2, .int x1)]) hx hb dX4_reorder_4 rfl hl (by decide) rfl (fun ls hl => ?_)
  refine lv_aload_n hx hb dX4_reorder_5 rfl (lv_at hl 0 rfl) ?_
  refine ln_H hx hb hr_w.2.2.2 (v := (nI w_n)) rfl dX4_reorder_6 ?_
  refine lv_topi (fun v4_1 e_v4_1 => ?_)
  have hf : f_X4_reorder S w_k w_n x1 = (f_X4_reorder_5 w_k w_n x1 v4_1 S) := hf.trans (congrArg (fun z => (f_X4_reorder_5 w_k w_n x1 z S)) e_v4_1.symm)
  refine lv_istore (lv' := [(4, .int v4_1), (3, .ref w_na), (0, .ref so), (1, .ref w), (2, .int x1)]) hx hb dX4_reorder_7 hl (by decide) rfl (fun ls hl => ?_)
  refine lv_aload_n hx hb dX4_reorder_9 rfl (lv_at hl 1 rfl) ?_
  refine lv_iconst (v := 0) hx hb dX4_reorder_10 (by decide) ?_
  refine lv_aload_n hx hb dX4_reorder_11 rfl (lv_at hl 2 rfl) ?_
  refine va_get (D := (dC, dI)) (ci := 3) (v := .ref ba) (C := RX4) (T := TX4) (N := 2) hx hb hts zin_X4 hown hK hP 0 rfl rfl 0 (by decide) (hts _ (zin__r2 (.fieldLink RX4 9 "ReckonBench$Sorter" "before" "[J") (List.mem_of_getElem? (i := 3) rfl))) (fun _ h9 => h9) rfl dX4_reorder_12 ?_
  refine lv_iconst (v := 0) hx hb dX4_reorder_15 (by decide) ?_
  refine lv_iload hx hb dX4_reorder_16 (lv_at hl 0 rfl) ?_
  refine va_copyl hx hb (hml.trans hl.1.symm) hown (hts _ (zin__r16 (.methodLink RX4 23 arraycopyName) (List.mem_of_getElem? (i := 4) rfl))) (hts _ (zin__r16 (.native arraycopyName) (List.mem_of_getElem? (i := 5) rfl))) (hts _ (zin__r16 (.static arraycopyName) (List.mem_of_getElem? (i := 6) rfl))) (hts _ (zin__r16 (.initialized "java/lang/System") (List.mem_of_getElem? (i := 7) rfl))) hK hP hD hS 4 1 0 0 (f := sf S) (g := sb S) rfl rfl rfl rfl rfl (by decide) (by decide) (by rw [e_v4_1]; exact nI_nn hn) (cp_le e_v4_1 hn (Nat.le_refl _)) (cp_le e_v4_1 hn hn) (fun _ _ => rfl) (Nat.le_of_ble_eq_true rfl) (Nat.le_of_ble_eq_true rfl) dX4_reorder_18 (fun H locs hP hD hS => ?_)
  obtain ⟨S_2, e_S_2⟩ : ∃ z : SSt, z = (sset_b S (va_cpy (sf S) (sb S) (0 : Int32).toNatClampNeg (0 : Int32).toNatClampNeg v4_1.toNatClampNeg)) := ⟨_, rfl⟩
  have hP : va_P (dC, dI) vwCl (sWs ad w w_k w_na w_n so ba ma cJ S_2) H := by rw [e_S_2]; exact hP
  have hD : va_D A (sWs ad w w_k w_na w_n so ba ma cJ S_2) := by rw [e_S_2]; exact hD
  have hw : sH dC dI ad w w_k w_na w_n so ba ma cJ S_2 s H := ⟨hP, hK⟩
  have hk := kA_at hkA hS
  have hr_w := sR_of hts hw
  have hbe := sT_of hts hw
  have hf : f_X4_reorder S w_k w_n x1 = (f_X4_reorder_L24 w_k w_n x1 v4_1 10 S_2 (1 : Int32)) := hf.trans (congrArg (fun z => (f_X4_reorder_L24 w_k w_n x1 v4_1 10 z (1 : Int32))) e_S_2.symm)
  refine lv_iconst (v := 1) hx hb dX4_reorder_21 (by decide) ?_
  refine lv_istore (lv' := [(5, .int (1 : Int32)), (4, .int v4_1), (3, .ref w_na), (0, .ref so), (1, .ref w), (2, .int x1)]) hx hb dX4_reorder_22 hl (by decide) rfl (fun ls hl => ?_)
  refine W_loopH (α := SSt × Int32) (pcJ := 24) (nL := 9) (fun n v H locs => f_X4_reorder S w_k w_n x1 = f_X4_reorder_L24 w_k w_n x1 v4_1 n v.1 v.2 ∧ (wdI v.2 n) ∧ sH dC dI ad w w_k w_na w_n so ba ma cJ v.1 s H ∧ va_D A (sWs ad w w_k w_na w_n so ba ma cJ v.1) ∧ va_S A s.heap H locs) (fun v => []) (fun v => [(0, .ref so), (1, .ref w), (2, .int x1), (3, .ref w_na), (4, .int v4_1), (5, .int v.2)]) (fun v H locs hC => ?_) (fun n_24 ih_24 v H locs ls hC hl => ?_) 10 (S_2, (1 : Int32)) _ _ ls ⟨hf, wdI.init, hw, hD, hS⟩ (lv_sub hl [3, 4, 5, 2, 1, 0] rfl)
  · obtain ⟨qS, q5⟩ := v
    have hJ : (wdI q5 (0 : Nat)) := hC.2.1
    exact wdI.zero hJ
  · obtain ⟨qS, q5⟩ := v
    obtain ⟨hf, hJ, hw, hD, hS⟩ : (f_X4_reorder S w_k w_n x1 = f_X4_reorder_L24 w_k w_n x1 v4_1 (n_24 + 1) qS q5) ∧ (wdI q5 (Nat.succ n_24)) ∧ sH dC dI ad w w_k w_na w_n so ba ma cJ qS s H ∧ va_D A (sWs ad w w_k w_na w_n so ba ma cJ qS) ∧ va_S A s.heap H locs := hC
    obtain ⟨hP, -⟩ := id hw
    have hk := kA_at hkA hS
    have hr_w := sR_of hts hw
    have hbe := sT_of hts hw
    obtain ⟨rec_24, hrec_24⟩ : ∃ z, z = f_X4_reorder_L24 w_k w_n x1 v4_1 n_24 := ⟨_, rfl⟩
    have hf : f_X4_reorder S w_k w_n x1 = (f_X4_reorder_3 v4_1 q5 w_n qS w_k x1 rec_24) := by rw [hrec_24]; exact hf
    have hl : lv_has ls 9 [(0, .ref so), (1, .ref w), (2, .int x1), (3, .ref w_na), (4, .int v4_1), (5, .int q5)] := hl
    refine lv_iload hx hb dX4_reorder_24 (lv_at hl 5 rfl) ?_
    refine lv_iload hx hb dX4_reorder_26 (lv_at hl 4 rfl) ?_
    refine lv_icmp_ge (tgt := 112) hx hb dX4_reorder_28 (by decide) (fun c_28 => ?_) (fun c_28 => ?_)
    · have hf : f_X4_reorder S w_k w_n x1 = ((f_X4_changed w_n (sf qS) (sb qS)), qS) := hf.trans (if_pos c_28)
      refine lv_aload_n hx hb dX4_reorder_112 rfl (lv_at hl 0 rfl) ?_
      refine lv_aload_n hx hb dX4_reorder_113 rfl (lv_at hl 3 rfl) ?_
      refine vp_callSi (va_Run.run (va_runV (As := [.ref w_na]) (rest := []) ⟨hx, hb, hml, hown, hts⟩ (c_X4_changed l so ba (sb qS) w_na w_n (sf qS) hn) (cwV 1 hts (gV iX4_changed (zin__r16 (.methodLink RX4 39 yX4_changed) (List.mem_of_getElem? (i := 19) rfl))) rfl rfl rfl (by decide +kernel) ⟨Nat.le_of_ble_eq_true rfl, Nat.le_of_ble_eq_true rfl⟩) ⟨fun a U g mk q => ⟨q.1, tsU_bl q.2.1, tU_bl q.2.2⟩, (sW_rv hw), fun U hU hW => ⟨rfl, ⟨tsU_mvH hbe hU hW, tU_mvH hr_w.2.2.2 hU hW⟩⟩⟩ rfl rfl hl.1 rfl (lv_room (Nat.le_of_ble_eq_true rfl)) dX4_reorder_114 ⟨Nat.zero_le _, Nat.zero_le _⟩)) (fun r_114 hr_114 => ?_)
      subst hr_114
      exact W.iret hx hb hr (fun t ht hW => ⟨⟨_, qS, rfl, hf.symm, by rw [ht]; exact hP, va_K.moved hW.alike hK, hD⟩, hS.F ht⟩) hS.2.2 dX4_reorder_117
    · have hf : f_X4_reorder S w_k w_n x1 = (f_X4_reorder_L34 w_k w_n x1 v4_1 q5 rec_24 502 qS (0 : Int32)) := hf.trans (if_neg c_28)
      refine lv_iconst (v := 0) hx hb dX4_reorder_31 (by decide) ?_
      refine lv_istore (lv' := [(6, .int (0 : Int32)), (0, .ref so), (1, .ref w), (2, .int x1), (3, .ref w_na), (4, .int v4_1), (5, .int q5)]) hx hb dX4_reorder_32 hl (by decide) rfl (fun ls hl => ?_)
      refine W_loopH (α := SSt × Int32) (pcJ := 34) (nL := 9) (fun n v H locs => f_X4_reorder S w_k w_n x1 = f_X4_reorder_L34 w_k w_n x1 v4_1 q5 rec_24 n v.1 v.2 ∧ (frI v.2 n) ∧ sH dC dI ad w w_k w_na w_n so ba ma cJ v.1 s H ∧ va_D A (sWs ad w w_k w_na w_n so ba ma cJ v.1) ∧ va_S A s.heap H locs) (fun v => []) (fun v => [(0, .ref so), (1, .ref w), (2, .int x1), (3, .ref w_na), (4, .int v4_1), (5, .int q5), (6, .int v.2)]) (fun v H locs hC => ?_) (fun n_34 ih_34 v H locs ls hC hl => ?_) 502 (qS, (0 : Int32)) _ _ ls ⟨hf, frI.init, hw, hD, hS⟩ (lv_sub hl [1, 2, 3, 4, 5, 6, 0] rfl)
      · obtain ⟨rS, q6⟩ := v
        have hF : (frI q6 (0 : Nat)) := hC.2.1
        exact frI.zero hF
      · obtain ⟨rS, q6⟩ := v
        obtain ⟨hf, hF, hw, hD, hS⟩ : (f_X4_reorder S w_k w_n x1 = f_X4_reorder_L34 w_k w_n x1 v4_1 q5 rec_24 (n_34 + 1) rS q6) ∧ (frI q6 (Nat.succ n_34)) ∧ sH dC dI ad w w_k w_na w_n so ba ma cJ rS s H ∧ va_D A (sWs ad w w_k w_na w_n so ba ma cJ rS) ∧ va_S A s.heap H locs := hC
        obtain ⟨hP, -⟩ := id hw
        have hk := kA_at hkA hS
        have hr_w := sR_of hts hw
        have hbe := sT_of hts hw
        obtain ⟨rec_34, hrec_34⟩ : ∃ z, z = f_X4_reorder_L34 w_k w_n x1 v4_1 q5 rec_24 n_34 := ⟨_, rfl⟩
        have hf : f_X4_reorder S w_k w_n x1 = (f_X4_reorder_1 v4_1 q6 rec_24 rS q5 rec_34 w_k w_n x1) := by rw [hrec_34]; exact hf
        have hl : lv_has ls 9 [(0, .ref so), (1, .ref w), (2, .int x1), (3, .ref w_na), (4, .int v4_1), (5, .int q5), (6, .int q6)] := hl
        refine lv_iload hx hb dX4_reorder_34 (lv_at hl 6 rfl) ?_
        refine lv_iload hx hb dX4_reorder_36 (lv_at hl 4 rfl) ?_
        refine lv_icmp_ge (tgt := 91) hx hb dX4_reorder_38 (by decide) (fun c_38 => ?_) (fun c_38 => ?_)
        · have hf : f_X4_reorder S w_k w_n x1 = (rec_24 (sset_f rS (va_cpy (sm rS) (sf rS) (0 : Int32).toNatClampNeg (0 : Int32).toNatClampNeg v4_1.toNatClampNeg)) (q5 * (2 : Int32))) := hf.trans (if_pos c_38)
          refine lv_aload_n hx hb dX4_reorder_91 rfl (lv_at hl 0 rfl) ?_
          refine va_get (D := (dC, dI)) (ci := 3) (v := .ref ma) (C := RX4) (T := TX4) (N := 2) hx hb hts zin_X4 hown hK hP 0 rfl rfl 1 (by decide) (hts _ (zin__r2 (.fieldLink RX4 15 "ReckonBench$Sorter" "merged" "[J") (List.mem_of_getElem? (i := 4) rfl))) (fun _ h9 => h9) rfl dX4_reorder_92 ?_
          refine lv_iconst (v := 0) hx hb dX4_reorder_95 (by decide) ?_
          refine lv_aload_n hx hb dX4_reorder_96 rfl (lv_at hl 3 rfl) ?_
          refine lv_iconst (v := 0) hx hb dX4_reorder_97 (by decide) ?_
          refine lv_iload hx hb dX4_reorder_98 (lv_at hl 4 rfl) ?_
          refine va_copyl hx hb (hml.trans hl.1.symm) hown (hts _ (zin__r16 (.methodLink RX4 23 arraycopyName) (List.mem_of_getElem? (i := 4) rfl))) (hts _ (zin__r16 (.native arraycopyName) (List.mem_of_getElem? (i := 5) rfl))) (hts _ (zin__r16 (.static arraycopyName) (List.mem_of_getElem? (i := 6) rfl))) (hts _ (zin__r16 (.initialized "java/lang/System") (List.mem_of_getElem? (i := 7) rfl))) hK hP hD hS 2 4 0 0 (f := sm rS) (g := sf rS) rfl rfl rfl rfl rfl (by decide) (by decide) (by rw [e_v4_1]; exact nI_nn hn) (cp_le e_v4_1 hn hn) (cp_le e_v4_1 hn (Nat.le_refl _)) (fun _ _ => rfl) (Nat.le_of_ble_eq_true rfl) (Nat.le_of_ble_eq_true rfl) dX4_reorder_100 (fun H locs hP hD hS => ?_)
          obtain ⟨S_3, e_S_3⟩ : ∃ z : SSt, z = (sset_f rS (va_cpy (sm rS) (sf rS) (0 : Int32).toNatClampNeg (0 : Int32).toNatClampNeg v4_1.toNatClampNeg)) := ⟨_, rfl⟩
          have hP : va_P (dC, dI) vwCl (sWs ad w w_k w_na w_n so ba ma cJ S_3) H := by rw [e_S_3]; exact hP
          have hD : va_D A (sWs ad w w_k w_na w_n so ba ma cJ S_3) := by rw [e_S_3]; exact hD
          have hw : sH dC dI ad w w_k w_na w_n so ba ma cJ S_3 s H := ⟨hP, hK⟩
          have hk := kA_at hkA hS
          have hr_w := sR_of hts hw
          have hbe := sT_of hts hw
          have hf : f_X4_reorder S w_k w_n x1 = (rec_24 S_3 (q5 * (2 : Int32))) := hf.trans (congrArg (fun z => (rec_24 z (q5 * (2 : Int32)))) e_S_3.symm)
          refine lv_iload hx hb dX4_reorder_103 (lv_at hl 5 rfl) ?_
          refine lv_iconst (v := 2) hx hb dX4_reorder_105 (by decide) ?_
          refine lv_imul hx hb dX4_reorder_106 ?_
          refine lv_topi (fun v5_4 e_v5_4 => ?_)
          have hf : f_X4_reorder S w_k w_n x1 = (rec_24 S_3 v5_4) := hf.trans (congrArg (fun z => (rec_24 S_3 z)) e_v5_4.symm)
          refine lv_istore (lv' := [(5, .int v5_4), (0, .ref so), (1, .ref w), (2, .int x1), (3, .ref w_na), (4, .int v4_1), (6, .int q6)]) hx hb dX4_reorder_107 hl (by decide) rfl (fun ls hl => ?_)
          refine lv_goto (tgt := 24) hx hb dX4_reorder_109 (by decide) ?_
          exact ih_24 (S_3, v5_4) _ _ ls ⟨hf.trans (congrFun (congrFun hrec_24 _) _), (by rw [e_v5_4]; exact wdI.next hn e_v4_1 hJ c_28), hw, hD, hS⟩ (lv_sub hl [1, 2, 3, 4, 5, 0] rfl)
        · have hf : f_X4_reorder S w_k w_n x1 = (rec_34 (f_X4_merge rS w_k w_n x1 q6 (jminI (q6 + q5) v4_1) (jminI (q6 + ((2 : Int32) * q5)) v4_1)) (q6 + ((2 : Int32) * q5))) := hf.trans (if_neg c_38)
          refine lv_iload hx hb dX4_reorder_41 (lv_at hl 6 rfl) ?_
          refine lv_iload hx hb dX4_reorder_43 (lv_at hl 5 rfl) ?_
          refine lv_iadd hx hb dX4_reorder_45 ?_
          refine lv_iload hx hb dX4_reorder_46 (lv_at hl 4 rfl) ?_
          refine va_mmin hx hb (hml.trans hl.1.symm) hown (hts _ (zin__r16 (.methodLink RX4 29 Lib.Math.min.name) (List.mem_of_getElem? (i := 8) rfl))) (hts _ (zin__r11 (.static Lib.Math.min.name) (List.mem_of_getElem? (i := 22) rfl))) (hts _ (zin__r9 (.initialized "java/lang/Math") (List.mem_of_getElem? (i := 1) rfl))) (hts _ (zin__r11 (.code Lib.Math.min.name Lib.Math.min.code 2 (some .int)) (List.mem_of_getElem? (i := 23) rfl))) (Nat.le_of_ble_eq_true rfl) (Nat.le_of_ble_eq_true rfl) (Nat.zero_le _) (Nat.zero_le _) dX4_reorder_48 ?_
          refine lv_topi (fun v7_5 e_v7_5 => ?_)
          have hf : f_X4_reorder S w_k w_n x1 = (rec_34 (f_X4_merge rS w_k w_n x1 q6 v7_5 (jminI (q6 + ((2 : Int32) * q5)) v4_1)) (q6 + ((2 : Int32) * q5))) := hf.trans (congrArg (fun z => (rec_34 (f_X4_merge rS w_k w_n x1 q6 z (jminI (q6 + ((2 : Int32) * q5)) v4_1)) (q6 + ((2 : Int32) * q5)))) e_v7_5.symm)
          refine lv_istore (lv' := [(7, .int v7_5), (0, .ref so), (1, .ref w), (2, .int x1), (3, .ref w_na), (4, .int v4_1), (5, .int q5), (6, .int q6)]) hx hb dX4_reorder_51 hl (by decide) rfl (fun ls hl => ?_)
          refine lv_iload hx hb dX4_reorder_53 (lv_at hl 7 rfl) ?_
          refine lv_iconst (v := 2) hx hb dX4_reorder_55 (by decide) ?_
          refine lv_iload hx hb dX4_reorder_56 (lv_at hl 6 rfl) ?_
          refine lv_imul hx hb dX4_reorder_58 ?_
          refine lv_iadd hx hb dX4_reorder_59 ?_
          refine lv_iload hx hb dX4_reorder_60 (lv_at hl 5 rfl) ?_
          refine va_mmin hx hb (hml.trans hl.1.symm) hown (hts _ (zin__r16 (.methodLink RX4 29 Lib.Math.min.name) (List.mem_of_getElem? (i := 8) rfl))) (hts _ (zin__r11 (.static Lib.Math.min.name) (List.mem_of_getElem? (i := 22) rfl))) (hts _ (zin__r9 (.initialized "java/lang/Math") (List.mem_of_getElem? (i := 1) rfl))) (hts _ (zin__r11 (.code Lib.Math.min.name Lib.Math.min.code 2 (some .int)) (List.mem_of_getElem? (i := 23) rfl))) (Nat.le_of_ble_eq_true rfl) (Nat.le_of_ble_eq_true rfl) (Nat.zero_le _) (Nat.zero_le _) dX4_reorder_62 ?_
          refine lv_topi (fun v8_6 e_v8_6 => ?_)
          have hf : f_X4_reorder S w_k w_n x1 = (rec_34 (f_X4_merge rS w_k w_n x1 q6 v7_5 v8_6) (q6 + ((2 : Int32) * q5))) := hf.trans (congrArg (fun z => (rec_34 (f_X4_merge rS w_k w_n x1 q6 v7_5 z) (q6 + ((2 : Int32) * q5)))) e_v8_6.symm)
          refine lv_istore (lv' := [(8, .int v8_6), (7, .int v7_5), (0, .ref so), (1, .ref w), (2, .int x1), (3, .ref w_na), (4, .int v4_1), (5, .int q5), (6, .int q6)]) hx hb dX4_reorder_65 hl (by decide) rfl (fun ls hl => ?_)
          refine lv_aload_n hx hb dX4_reorder_67 rfl (lv_at hl 2 rfl) ?_
          refine lv_aload_n hx hb dX4_reorder_68 rfl (lv_at hl 3 rfl) ?_
          refine lv_iload_n hx hb dX4_reorder_69 rfl (lv_at hl 4 rfl) ?_
          refine lv_iload hx hb dX4_reorder_70 (lv_at hl 8 rfl) ?_
          refine lv_iload hx hb dX4_reorder_72 (lv_at hl 1 rfl) ?_
          refine lv_iload hx hb dX4_reorder_74 (lv_at hl 0 rfl) ?_
          have hFc := va_freeAll hD hS hA
          refine va_callv (va_runV (As := [.ref w, .int x1, .int q6, .int v7_5, .int v8_6]) (rest := []) ⟨hx, hb, hml, hown, hts⟩ (c_X4_merge l dC dI ad w w_k w_na w_n h_w_k so ba ma cJ H.size rS x1 q6 v7_5 v8_6 hn (mgP.of hn e_v4_1 hJ c_28 hF c_38 e_v7_5 e_v8_6)) (cwV 5 hts (gV iX4_merge (zin__r16 (.methodLink RX4 35 yX4_merge) (List.mem_of_getElem? (i := 9) rfl))) rfl rfl rfl (by decide +kernel) ⟨Nat.le_of_ble_eq_true rfl, Nat.le_of_ble_eq_true rfl⟩) ⟨fun a U g mk q => ⟨q.1, sB_bl q.2⟩, sW_rv hw, fun U hU hW => ⟨rfl, sB_mv hw hD (kA_in hkA hS hFc) hU hW⟩⟩ rfl rfl hl.1 rfl (lv_room (Nat.le_of_ble_eq_true rfl)) dX4_reorder_76 ⟨Nat.zero_le _, Nat.zero_le _⟩) hS (fun q _ h => hFc q h) hFc (fun S_7 t H1 locs ht hvm hw1 hB hz1 hk1 hS => ?_)
          obtain ⟨hP, -, hD1⟩ := hB
          rw [ht] at hP
          have hD := hD1.weaken (fun k q _ h => hFc q.1 h)
          generalize H1 = H at hP hS ⊢
          have hw : sH dC dI ad w w_k w_na w_n so ba ma cJ S_7 s H := ⟨hP, hK⟩
          have hk := kA_at hkA hS
          have hr_w := sR_of hts hw
          have hbe := sT_of hts hw
          have hf : f_X4_reorder S w_k w_n x1 = (rec_34 S_7 (q6 + ((2 : Int32) * q5))) := hf.trans (congrArg (fun z => (rec_34 z (q6 + ((2 : Int32) * q5)))) hw1.symm)
          refine lv_iload hx hb dX4_reorder_79 (lv_at hl 8 rfl) ?_
          refine lv_iconst (v := 2) hx hb dX4_reorder_81 (by decide) ?_
          refine lv_iload hx hb dX4_reorder_82 (lv_at hl 7 rfl) ?_
          refine lv_imul hx hb dX4_reorder_84 ?_
          refine lv_iadd hx hb dX4_reorder_85 ?_
          refine lv_topi (fun v6_8 e_v6_8 => ?_)
          have hf : f_X4_reorder S w_k w_n x1 = (rec_34 S_7 v6_8) := hf.trans (congrArg (fun z => (rec_34 S_7 z)) e_v6_8.symm)
          refine lv_istore (lv' := [(6, .int v6_8), (8, .int v8_6), (7, .int v7_5), (0, .ref so), (1, .ref w), (2, .int x1), (3, .ref w_na), (4, .int v4_1), (5, .int q5)]) hx hb dX4_reorder_86 hl (by decide) rfl (fun ls hl => ?_)
          refine lv_goto (tgt := 34) hx hb dX4_reorder_88 (by decide) ?_
          exact ih_34 (S_7, v6_8) _ _ ls ⟨hf.trans (congrFun (congrFun hrec_34 _) _), (by rw [e_v6_8]; exact frI.next hn e_v4_1 hJ c_28 hF c_38), hw, hD, hS⟩ (lv_sub hl [3, 4, 5, 6, 7, 8, 0] rfl)
