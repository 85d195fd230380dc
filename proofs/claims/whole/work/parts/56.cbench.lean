def f_X6_sort_1 (p9 : Int32 × CSt) : Int32 × CSt := (p9.1, p9.2)
def f_X6_sort_2 (S : CSt) : Int32 × CSt := (f_X6_sort_1 (f_X6_refuse S (2 : Int32)))
def f_X6_sort_3 (S : CSt) (x1 : Int32) (p9 : Int32 × SSt) : Int32 × CSt := (f_X6_sort_1 (f_X6_answer (cset_so S x1.toNatClampNeg p9.2) p9.1))
def f_X6_sort_4 (x2 : Int32) (S : CSt) (x1 : Int32) : Int32 × CSt := if x2 ≤ (2 : Int32) then (f_X6_sort_3 S x1 (f_X4_reorder (cSo S x1.toNatClampNeg) (ckd S x1.toNatClampNeg) (cln S x1.toNatClampNeg) x2)) else (f_X6_sort_2 S)
def f_X6_sort_5 (x2 : Int32) (S : CSt) (x1 : Int32) : Int32 × CSt := if x2 < 0 then (f_X6_sort_2 S) else (f_X6_sort_4 x2 S x1)
def f_X6_sort_6 (x1 : Int32) (S : CSt) (x2 : Int32) : Int32 × CSt := if 0 ≤ x1 ∧ x1 < nI (cn S) then (f_X6_sort_5 x2 S x1) else (f_X6_sort_1 (f_X6_refuse S (1 : Int32)))
def f_X6_sort (S : CSt) (x1 : Int32) (x2 : Int32) : Int32 × CSt := (f_X6_sort_6 x1 S x2)
def zX6_sort : List Cond := .code yX6_sort cX6_sort 4 (some .int) :: zall
theorem iX6_sort : MWv RX6 yX6_sort (.code yX6_sort cX6_sort 4 (some .int)) := ⟨(zin__r15 (.instanceMethod yX6_sort) (List.mem_of_getElem? (i := 20) rfl)), (zin__r15 (.selects RX6 yX6_sort yX6_sort) (List.mem_of_getElem? (i := 21) rfl)), (zin__r1 (.initialized RX6) (List.mem_of_getElem? (i := 2) rfl)), (zin__r15 (.code yX6_sort cX6_sort 4 (some .int)) (List.mem_of_getElem? (i := 22) rfl))⟩
set_option maxHeartbeats 4000000 in
set_option maxRecDepth 100000 in
theorem c_X6_sort (l : Launch) (dC : Nat → ClassId) (dI : Nat → Nat → Nat) (ad : Nat → Nat) (o rw so ba ma : Nat) (cR cJ : ClassId) (sz : Nat) (S : CSt) (x1 : Int32) (x2 : Int32) (hI : cInv S) : Met l yX6_sort zX6_sort ({ frames := 5, cells := 0, slots := 0, locals := 125 }) (va_Pc [.ref o, .int x1, .int x2] (fun U => cB dC dI ad o rw so ba ma cR cJ sz S U)) (va_Qi (fun r9 S9 => (r9, S9) = f_X6_sort S x1 x2) (cE dC dI ad o rw so ba ma cR cJ (va_A (cWs ad o rw so ba ma cR cJ S) sz)) (va_A (cWs ad o rw so ba ma cR cJ S) sz)) 0 0 (va_A (cWs ad o rw so ba ma cR cJ S) sz) := by
  refine Met.ofW (cc := cX6_sort) (maxL := 4) (ret := (some .int)) (by decide) rfl ?_
  intro p e s m args below meth c s₁ B hml hv
  obtain ⟨rfl, hsz, hP, hK, hD0, hkA⟩ := hv
  have hx := B.exec
  have hb := B.bytes
  have hr := B.returns
  have hts : ∀ w ∈ zall, w.before _ s = true := fun w h => atoms_spec (ws := zX6_sort) B.pre w (List.mem_cons_of_mem _ h)
  have hown : s.vm.findClass RX6 = some m.cls := findClass_of_methodNamed B.named
  have hlocks := B.notSynchronized
  subst hsz
  have hD := hD0.self (sz := s.heap.size)
  generalize hAe : va_A (cWs ad o rw so ba ma cR cJ S) s.heap.size = A at hD hkA ⊢
  have hA : ∀ q : Nat, s.heap.size ≤ q → A q := fun q h => by rw [← hAe]; exact Or.inr h
  have hS : va_S A s.heap s.heap [] := va_S.rf
  have hw : cH dC dI ad o rw so ba ma cR cJ S s s.heap := ⟨hP, hK⟩
  have hk := kA_at hkA hS
  have hl := lv_entry ([.ref o, .int x1, .int x2]) (n := 4) (Nat.le_of_ble_eq_true rfl)
  rw [lg_entry_eq]
  generalize (lg_sl ([.ref o, .int x1, .int x2]) ++ List.replicate (4 - (lg_sl ([.ref o, .int x1, .int x2])).length) Slot.unset).toArray = ls at hl ⊢
  have hl : lv_has ls 4 [(0, .ref o), (1, .int x1), (2, .int x2)] := hl
  have hf : f_X6_sort S x1 x2 = (f_X6_sort_6 x1 S x2) := rfl
  refine lv_aload_n hx hb dX6_sort_0 rfl (lv_at hl 0 rfl) ?_
  refine lv_iload_n hx hb dX6_sort_1 rfl (lv_at hl 1 rfl) ?_
  refine va_csq (va_Run.run (va_runV (As := [.int x1]) (rest := []) ⟨hx, hb, hml, hown, hts⟩ (c_X6_rowAt l dC dI ad o rw so ba ma cR cJ S x1 hI) (cwV 1 hts (gV iX6_rowAt (zin__r4 (.methodLink RX6 51 yX6_rowAt) (List.mem_of_getElem? (i := 23) rfl))) rfl rfl rfl (by decide +kernel) ⟨Nat.le_of_ble_eq_true rfl, Nat.le_of_ble_eq_true rfl⟩) ⟨fun a U g mk q => ⟨q.1, cW_bl q.2⟩, cW_rv hw, fun U hU hW => ⟨rfl, cW_mv hw hU hW⟩⟩ rfl rfl hl.1 rfl (lv_room (Nat.le_of_ble_eq_true rfl)) dX6_sort_2 ⟨Nat.zero_le _, Nat.zero_le _⟩)) (fun r_2 hr_2 => ?_)
  rcases Decidable.em (0 ≤ x1 ∧ x1 < nI (cn S)) with c_2 | c_2
  · rw [if_pos c_2] at hr_2
    subst hr_2
    have hj_q2 : x1.toNatClampNeg < cn S := cRow_lt hI c_2
    have hr_q2 := rH_of hts hw hj_q2
    have hn_q2 : cln S x1.toNatClampNeg ≤ 500 := (hI.2 _ hj_q2).2.2
    have hkq_q2 : ckd S x1.toNatClampNeg < 2 := (hI.2 _ hj_q2).1
    have hf : f_X6_sort S x1 x2 = (f_X6_sort_5 x2 S x1) := hf.trans (if_pos c_2)
    refine lv_astore_n (lv' := [(3, .ref (cro S x1.toNatClampNeg)), (0, .ref o), (1, .int x1), (2, .int x2)]) hx hb dX6_sort_5 rfl hl (by decide) rfl (fun ls hl => ?_)
    refine lv_aload_n hx hb dX6_sort_6 rfl (lv_at hl 0 rfl) ?_
    refine lv_ifnonnull (tgt := 16) hx hb dX6_sort_7 (by decide) ?_
    refine lv_iload_n hx hb dX6_sort_16 rfl (lv_at hl 3 rfl) ?_
    refine W_cut (α := Unit) (pcJ := 25) (nL := 4) (fun v => f_X6_sort S x1 x2 = (f_X6_sort_2 S)) (fun v => []) (fun v => [(0, .ref o)]) (fun v ls hf hl => ?_) (fun K_25 => ?_)
    · have hf : f_X6_sort S x1 x2 = (f_X6_sort_1 (f_X6_refuse S (2 : Int32))) := hf
      have hl : lv_has ls 4 [(0, .ref o)] := hl
      refine lv_aload_n hx hb dX6_sort_25 rfl (lv_at hl 0 rfl) ?_
      refine lv_iconst (v := 2) hx hb dX6_sort_26 (by decide) ?_
      have hFc := va_freeAll hD hS hA
      refine va_calli (va_runV (As := [.int (2 : Int32)]) (rest := []) ⟨hx, hb, hml, hown, hts⟩ (c_X6_refuse l dC dI ad o rw so ba ma cR cJ s.heap.size S (2 : Int32)) (cwV 1 hts (gV iX6_refuse (zin__r3 (.methodLink RX6 32 yX6_refuse) (List.mem_of_getElem? (i := 18) rfl))) rfl rfl rfl (by decide +kernel) ⟨Nat.le_of_ble_eq_true rfl, Nat.le_of_ble_eq_true rfl⟩) ⟨fun a U g mk q => ⟨q.1, cB_bl q.2⟩, cW_rv hw, fun U hU hW => ⟨rfl, cB_mv hw hD (kA_in hkA hS hFc) hU hW⟩⟩ rfl rfl hl.1 rfl (lv_room (Nat.le_of_ble_eq_true rfl)) dX6_sort_27 ⟨Nat.zero_le _, Nat.zero_le _⟩) hS (fun q _ h => hFc q h) hFc (fun r_27 S_1 t H1 locs ht hvm hw1 hB hz1 hk1 hS => ?_)
      obtain ⟨hP, -, hD1⟩ := hB
      rw [ht] at hP
      have hD := hD1.weaken (fun k q _ h => hFc q.1 h)
      generalize H1 = H at hP hS ⊢
      have hw : cH dC dI ad o rw so ba ma cR cJ S_1 s H := ⟨hP, hK⟩
      have hk := kA_at hkA hS
      have hf : f_X6_sort S x1 x2 = (r_27, S_1) := hf.trans (congrArg (fun z => (f_X6_sort_1 z)) hw1.symm)
      exact W.iret hx hb hr (fun t ht hW => ⟨⟨_, S_1, rfl, hf.symm, by rw [ht]; exact hP, va_K.moved hW.alike hK, hD⟩, hS.F ht⟩) hS.2.2 dX6_sort_30
    refine lv_if_lt (tgt := 25) hx hb dX6_sort_17 (by decide) (fun c_17 => ?_) (fun c_17 => ?_)
    · have hf : f_X6_sort S x1 x2 = (f_X6_sort_2 S) := hf.trans (if_pos c_17)
      exact K_25 () ls hf (lv_sub hl [1] rfl)
    · have hf : f_X6_sort S x1 x2 = (f_X6_sort_4 x2 S x1) := hf.trans (if_neg c_17)
      refine lv_iload_n hx hb dX6_sort_20 rfl (lv_at hl 3 rfl) ?_
      refine lv_iconst (v := 2) hx hb dX6_sort_21 (by decide) ?_
      refine lv_icmp_le (tgt := 31) hx hb dX6_sort_22 (by decide) (fun c_22 => ?_) (fun c_22 => ?_)
      · have hf : f_X6_sort S x1 x2 = (f_X6_sort_3 S x1 (f_X4_reorder (cSo S x1.toNatClampNeg) (ckd S x1.toNatClampNeg) (cln S x1.toNatClampNeg) x2)) := hf.trans (if_pos c_22)
        refine lv_aload_n hx hb dX6_sort_31 rfl (lv_at hl 1 rfl) ?_
        refine lv_aload_n hx hb dX6_sort_32 rfl (lv_at hl 1 rfl) ?_
        refine va_get (D := (dC, dI)) (ci := 4) (v := .ref so) (C := RX6) (T := TX6) (N := 5) hx hb hts zin_X6 hown hK hP 0 rfl rfl 1 (by decide) (hts _ (zin__r1 (.fieldLink RX6 18 "ReckonBench" "sorter" "LReckonBench$Sorter;") (List.mem_of_getElem? (i := 18) rfl))) (fun _ h9 => h9) rfl dX6_sort_33 ?_
        refine lv_aload_n hx hb dX6_sort_36 rfl (lv_at hl 0 rfl) ?_
        refine lv_iload_n hx hb dX6_sort_37 rfl (lv_at hl 3 rfl) ?_
        have hFc := cSo_free (j := x1.toNatClampNeg) hD hS hA hj_q2
        refine va_calli (va_runV (As := [.ref (cro S x1.toNatClampNeg), .int x2]) (rest := [.ref o]) ⟨hx, hb, hml, hown, hts⟩ (c_X4_reorder l dC dI ad (cro S x1.toNatClampNeg) (ckd S x1.toNatClampNeg) (cna S x1.toNatClampNeg) (cln S x1.toNatClampNeg) hkq_q2 so ba ma cJ s.heap.size (cSo S x1.toNatClampNeg) x2 hn_q2) (cwV 2 hts (gV iX4_reorder (zin__r15 (.methodLink RX6 117 yX4_reorder) (List.mem_of_getElem? (i := 23) rfl))) rfl rfl rfl (by decide +kernel) ⟨Nat.le_of_ble_eq_true rfl, Nat.le_of_ble_eq_true rfl⟩) ⟨fun a U g mk q => ⟨q.1, sB_bl q.2⟩, cSo_rv hw, fun U hU hW => ⟨rfl, sB_of hw hD (kA_in hkA hS hFc) hj_q2 hU hW⟩⟩ rfl rfl hl.1 rfl (lv_room (Nat.le_of_ble_eq_true rfl)) dX6_sort_38 ⟨Nat.zero_le _, Nat.zero_le _⟩) hS (fun q _ h => hFc q h) hFc (fun r_38 T_2 t H1 locs ht hvm hw1 hB hz1 hk1 hS => ?_)
        obtain ⟨hP1, -, hD1⟩ := hB
        rw [ht] at hP1
        obtain ⟨hP, hD⟩ := cW_so hw.1 hD hj_q2 hP1 hk1
        generalize H1 = H at hP hS ⊢
        obtain ⟨S_3, e_S_3⟩ : ∃ z : CSt, z = (cset_so S x1.toNatClampNeg T_2) := ⟨_, rfl⟩
        rw [← e_S_3] at hP hD
        have hw : cH dC dI ad o rw so ba ma cR cJ S_3 s H := ⟨hP, hK⟩
        have hk := kA_at hkA hS
        have hf : f_X6_sort S x1 x2 = (f_X6_sort_1 (f_X6_answer S_3 r_38)) := by rw [e_S_3]; exact hf.trans (congrArg (fun z => (f_X6_sort_3 S x1 z)) hw1.symm)
        have hFc := va_freeAll hD hS hA
        refine va_calli (va_runV (As := [.int r_38]) (rest := []) ⟨hx, hb, hml, hown, hts⟩ (c_X6_answer l dC dI ad o rw so ba ma cR cJ H.size S_3 r_38) (cwV 1 hts (gV iX6_answer (zin__r4 (.methodLink RX6 48 yX6_answer) (List.mem_of_getElem? (i := 4) rfl))) rfl rfl rfl (by decide +kernel) ⟨Nat.le_of_ble_eq_true rfl, Nat.le_of_ble_eq_true rfl⟩) ⟨fun a U g mk q => ⟨q.1, cB_bl q.2⟩, cW_rv hw, fun U hU hW => ⟨rfl, cB_mv hw hD (kA_in hkA hS hFc) hU hW⟩⟩ rfl rfl hl.1 rfl (lv_room (Nat.le_of_ble_eq_true rfl)) dX6_sort_41 ⟨Nat.zero_le _, Nat.zero_le _⟩) hS (fun q _ h => hFc q h) hFc (fun r_41 S_4 t H1 locs ht hvm hw1 hB hz1 hk1 hS => ?_)
        obtain ⟨hP, -, hD1⟩ := hB
        rw [ht] at hP
        have hD := hD1.weaken (fun k q _ h => hFc q.1 h)
        generalize H1 = H at hP hS ⊢
        have hw : cH dC dI ad o rw so ba ma cR cJ S_4 s H := ⟨hP, hK⟩
        have hk := kA_at hkA hS
        have hf : f_X6_sort S x1 x2 = (r_41, S_4) := hf.trans (congrArg (fun z => (f_X6_sort_1 z)) hw1.symm)
        exact W.iret hx hb hr (fun t ht hW => ⟨⟨_, S_4, rfl, hf.symm, by rw [ht]; exact hP, va_K.moved hW.alike hK, hD⟩, hS.F ht⟩) hS.2.2 dX6_sort_44
      · have hf : f_X6_sort S x1 x2 = (f_X6_sort_2 S) := hf.trans (if_neg c_22)
        exact K_25 () ls hf (lv_sub hl [1] rfl)
  · rw [if_neg c_2] at hr_2
    subst hr_2
    have hf : f_X6_sort S x1 x2 = (f_X6_sort_1 (f_X6_refuse S (1 : Int32))) := hf.trans (if_neg c_2)
    refine lv_astore_nN (lv' := [(3, .null), (0, .ref o), (1, .int x1), (2, .int x2)]) hx hb dX6_sort_5 rfl hl (by decide) rfl (fun ls hl => ?_)
    refine lv_aload_nN hx hb dX6_sort_6 rfl (lv_at hl 0 rfl) ?_
    refine lv_ifnonnullN hx hb dX6_sort_7 ?_
    refine lv_aload_n hx hb dX6_sort_10 rfl (lv_at hl 1 rfl) ?_
    refine lv_iconst (v := 1) hx hb dX6_sort_11 (by decide) ?_
    have hFc := va_freeAll hD hS hA
    refine va_calli (va_runV (As := [.int (1 : Int32)]) (rest := []) ⟨hx, hb, hml, hown, hts⟩ (c_X6_refuse l dC dI ad o rw so ba ma cR cJ s.heap.size S (1 : Int32)) (cwV 1 hts (gV iX6_refuse (zin__r3 (.methodLink RX6 32 yX6_refuse) (List.mem_of_getElem? (i := 18) rfl))) rfl rfl rfl (by decide +kernel) ⟨Nat.le_of_ble_eq_true rfl, Nat.le_of_ble_eq_true rfl⟩) ⟨fun a U g mk q => ⟨q.1, cB_bl q.2⟩, cW_rv hw, fun U hU hW => ⟨rfl, cB_mv hw hD (kA_in hkA hS hFc) hU hW⟩⟩ rfl rfl hl.1 rfl (lv_room (Nat.le_of_ble_eq_true rfl)) dX6_sort_12 ⟨Nat.zero_le _, Nat.zero_le _⟩) hS (fun q _ h => hFc q h) hFc (fun r_12 S_5 t H1 locs ht hvm hw1 hB hz1 hk1 hS => ?_)
    obtain ⟨hP, -, hD1⟩ := hB
    rw [ht] at hP
    have hD := hD1.weaken (fun k q _ h => hFc q.1 h)
    generalize H1 = H at hP hS ⊢
    have hw : cH dC dI ad o rw so ba ma cR cJ S_5 s H := ⟨hP, hK⟩
    have hk := kA_at hkA hS
    have hf : f_X6_sort S x1 x2 = (r_12, S_5) := hf.trans (congrArg (fun z => (f_X6_sort_1 z)) hw1.symm)
    exact W.iret hx hb hr (fun t ht hW => ⟨⟨_, S_5, rfl, hf.symm, by rw [ht]; exact hP, va_K.moved hW.alike hK, hD⟩, hS.F ht⟩) hS.2.2 dX6_sort_15
