def f_X7_between_1 (r_61 : Int32) (w_4 : Int32) (S_3 : MSt) : Int32 × MSt := if (r_61 &&& (4 : Int32)) = 0 then ((w_4 + (2 : Int32)), S_3) else ((w_4 + (0 : Int32)), S_3)
def f_X7_between_2 (r_51 : Int32) (r_61 : Int32) (w_4 : Int32) (S_3 : MSt) : Int32 × MSt := if (r_51 &&& (1 : Int32)) = 0 then (f_X7_between_1 r_61 w_4 S_3) else ((w_4 + (0 : Int32)), S_3)
def f_X7_between_3 (r_51 : Int32) (r_61 : Int32) (S_3 : MSt) : Int32 × MSt := (f_X7_between_2 r_51 r_61 (0 : Int32) S_3)
def f_X7_between_4 (r_61 : Int32) (r_51 : Int32) (S_3 : MSt) : Int32 × MSt := if (r_61 &&& (8 : Int32)) = 0 then (f_X7_between_3 r_51 r_61 S_3) else (f_X7_between_2 r_51 r_61 (1 : Int32) S_3)
def f_X7_between_5 (r_51 : Int32) (r_61 : Int32) (S_3 : MSt) : Int32 × MSt := if (r_51 &&& (16 : Int32)) = 0 then (f_X7_between_3 r_51 r_61 S_3) else (f_X7_between_4 r_61 r_51 S_3)
def f_X7_between_6 (r_51 : Int32) (p9 : Int32 × MSt) : Int32 × MSt := (f_X7_between_5 r_51 p9.1 p9.2)
def f_X7_between_7 (p9 : Int32 × MSt) (x1 : Int32) (x2 : Int32) (x4 : Int32) : Int32 × MSt := (f_X7_between_6 p9.1 (f_X7_compare p9.2 x1 x2 x4))
def f_X7_between_8 (p9 : Int32 × MSt) : Int32 × MSt := (p9.1, p9.2)
def f_X7_between_9 (v5_1 : Int32) (S : MSt) (x1 : Int32) (x2 : Int32) (x3 : Int32) (x4 : Int32) : Int32 × MSt := if v5_1 ≤ 0 then (f_X7_between_7 (f_X7_compare S x1 x2 x3) x1 x2 x4) else (f_X7_between_8 (f_X7_no S v5_1))
def f_X7_between_10 (S : MSt) : Int32 × MSt := (f_X7_between_8 (f_X7_no S (2 : Int32)))
def f_X7_between_11 (S : MSt) (x1 : Int32) (x4 : Int32) (v5_1 : Int32) (x2 : Int32) (x3 : Int32) : Int32 × MSt := if (f_X7_outside S x1 x4) = 0 then (f_X7_between_9 v5_1 S x1 x2 x3 x4) else (f_X7_between_10 S)
def f_X7_between_12 (S : MSt) (x1 : Int32) (x3 : Int32) (x4 : Int32) (v5_1 : Int32) (x2 : Int32) : Int32 × MSt := if (f_X7_outside S x1 x3) = 0 then (f_X7_between_11 S x1 x4 v5_1 x2 x3) else (f_X7_between_10 S)
def f_X7_between_13 (v5_1 : Int32) (S : MSt) (x1 : Int32) (x3 : Int32) (x4 : Int32) (x2 : Int32) : Int32 × MSt := if v5_1 = 0 then (f_X7_between_12 S x1 x3 x4 v5_1 x2) else (f_X7_between_9 v5_1 S x1 x2 x3 x4)
def f_X7_between (S : MSt) (x1 : Int32) (x2 : Int32) (x3 : Int32) (x4 : Int32) : Int32 × MSt := (f_X7_between_13 (f_X7_bad S x1 x2) S x1 x3 x4 x2)
def zX7_between : List Cond := .code yX7_between cX7_between 8 (some .int) :: zall
theorem iX7_between : MWv RX7 yX7_between (.code yX7_between cX7_between 8 (some .int)) := ⟨(zin__r14 (.instanceMethod yX7_between) (List.mem_of_getElem? (i := 22) rfl)), (zin__r14 (.selects RX7 yX7_between yX7_between) (List.mem_of_getElem? (i := 23) rfl)), (zin__r1 (.initialized RX7) (List.mem_of_getElem? (i := 5) rfl)), (zin__r15 (.code yX7_between cX7_between 8 (some .int)) (List.mem_of_getElem? (i := 0) rfl))⟩
set_option maxHeartbeats 4000000 in
set_option maxRecDepth 100000 in
theorem c_X7_between (l : Launch) (dC : Nat → ClassId) (dI : Nat → Nat → Nat) (o : Nat) (r : Nat → Nat) (cI cJ : ClassId) (sz : Nat) (S : MSt) (x1 : Int32) (x2 : Int32) (x3 : Int32) (x4 : Int32) (hI : mInv S) : Met l yX7_between zX7_between ({ frames := 3, cells := 0, slots := 0, locals := 75 }) (va_Pc [.ref o, .int x1, .int x2, .int x3, .int x4] (fun U => mB dC dI o r cI cJ sz S U)) (va_Qi (fun r9 S9 => (r9, S9) = f_X7_between S x1 x2 x3 x4) (mE dC dI o r cI cJ (va_A (mWs o r cI cJ S) sz)) (va_A (mWs o r cI cJ S) sz)) 0 0 (va_A (mWs o r cI cJ S) sz) := by
  refine Met.ofW (cc := cX7_between) (maxL := 8) (ret := (some .int)) (by decide) rfl ?_
  intro p e s m args below meth c s₁ B hml hv
  obtain ⟨rfl, hsz, hP, hK, hD0⟩ := hv
  have hx := B.exec
  have hb := B.bytes
  have hr := B.returns
  have hts : ∀ w ∈ zall, w.before _ s = true := fun w h => atoms_spec (ws := zX7_between) B.pre w (List.mem_cons_of_mem _ h)
  have hown : s.vm.findClass RX7 = some m.cls := findClass_of_methodNamed B.named
  have hlocks := B.notSynchronized
  subst hsz
  have hD := hD0.self (sz := s.heap.size)
  generalize hAe : va_A (mWs o r cI cJ S) s.heap.size = A at hD ⊢
  have hA : ∀ q : Nat, s.heap.size ≤ q → A q := fun q h => by rw [← hAe]; exact Or.inr h
  have hS : va_S A s.heap s.heap [] := va_S.rf
  have hw : mH dC dI o r cI cJ S s s.heap := ⟨hP, hK⟩
  have hm := mA_of hts hw
  have hl := lv_entry ([.ref o, .int x1, .int x2, .int x3, .int x4]) (n := 8) (Nat.le_of_ble_eq_true rfl)
  rw [lg_entry_eq]
  generalize (lg_sl ([.ref o, .int x1, .int x2, .int x3, .int x4]) ++ List.replicate (8 - (lg_sl ([.ref o, .int x1, .int x2, .int x3, .int x4])).length) Slot.unset).toArray = ls at hl ⊢
  have hl : lv_has ls 8 [(0, .ref o), (1, .int x1), (2, .int x2), (3, .int x3), (4, .int x4)] := hl
  have hf : f_X7_between S x1 x2 x3 x4 = (f_X7_between_13 (f_X7_bad S x1 x2) S x1 x3 x4 x2) := rfl
  refine lv_aload_n hx hb dX7_between_0 rfl (lv_at hl 0 rfl) ?_
  refine lv_iload_n hx hb dX7_between_1 rfl (lv_at hl 1 rfl) ?_
  refine lv_iload_n hx hb dX7_between_2 rfl (lv_at hl 2 rfl) ?_
  refine vp_callSi (va_Run.run (va_runV (As := [.int x1, .int x2]) (rest := []) ⟨hx, hb, hml, hown, hts⟩ (c_X7_bad l dC dI o r cI cJ S x1 x2 hI) (cwV 2 hts (gV iX7_bad (zin__r6 (.methodLink RX7 142 yX7_bad) (List.mem_of_getElem? (i := 15) rfl))) rfl rfl rfl (by decide +kernel) ⟨Nat.le_of_ble_eq_true rfl, Nat.le_of_ble_eq_true rfl⟩) ⟨fun a U g mk q => ⟨q.1, mW_bl q.2⟩, (mW_rv hw), fun U hU hW => ⟨rfl, mW_mv hw hU hW⟩⟩ rfl rfl hl.1 rfl (lv_room (Nat.le_of_ble_eq_true rfl)) dX7_between_3 ⟨Nat.zero_le _, Nat.zero_le _⟩)) (fun r_3 hr_3 => ?_)
  subst hr_3
  refine lv_topi (fun v5_1 e_v5_1 => ?_)
  have hf : f_X7_between S x1 x2 x3 x4 = (f_X7_between_13 v5_1 S x1 x3 x4 x2) := hf.trans (congrArg (fun z => (f_X7_between_13 z S x1 x3 x4 x2)) e_v5_1.symm)
  refine lv_istore (lv' := [(5, .int v5_1), (0, .ref o), (1, .int x1), (2, .int x2), (3, .int x3), (4, .int x4)]) hx hb dX7_between_6 hl (by decide) rfl (fun ls hl => ?_)
  refine lv_iload hx hb dX7_between_8 (lv_at hl 0 rfl) ?_
  refine lv_if_ne (tgt := 35) hx hb dX7_between_10 (by decide) (fun c_10 => ?_) (fun c_10 => ?_)
  · have hf : f_X7_between S x1 x2 x3 x4 = (f_X7_between_9 v5_1 S x1 x2 x3 x4) := hf.trans (if_neg c_10)
    refine lv_iload hx hb dX7_between_35 (lv_at hl 0 rfl) ?_
    refine lv_if_le (tgt := 47) hx hb dX7_between_37 (by decide) (fun c_37 => ?_) (fun c_37 => ?_)
    · have hf : f_X7_between S x1 x2 x3 x4 = (f_X7_between_7 (f_X7_compare S x1 x2 x3) x1 x2 x4) := hf.trans (if_pos c_37)
      refine lv_aload_n hx hb dX7_between_47 rfl (lv_at hl 1 rfl) ?_
      refine lv_iload_n hx hb dX7_between_48 rfl (lv_at hl 2 rfl) ?_
      refine lv_iload_n hx hb dX7_between_49 rfl (lv_at hl 3 rfl) ?_
      refine lv_iload_n hx hb dX7_between_50 rfl (lv_at hl 4 rfl) ?_
      have hFc := va_free (wc := mWs o r cI cJ S) hD hS hA [0, 1, 2, 3, 4, 5, 6, 7, 8, 9, 10, 11, 12, 13, 14, 15, 16] rfl
      refine va_calli (va_runV (As := [.int x1, .int x2, .int x3]) (rest := []) ⟨hx, hb, hml, hown, hts⟩ (c_X7_compare l dC dI o r cI cJ s.heap.size S x1 x2 x3 hI) (cwV 3 hts (gV iX7_compare (zin__r15 (.methodLink RX7 167 yX7_compare) (List.mem_of_getElem? (i := 1) rfl))) rfl rfl rfl (by decide +kernel) ⟨Nat.le_of_ble_eq_true rfl, Nat.le_of_ble_eq_true rfl⟩) ⟨fun a U g mk q => ⟨q.1, mB_bl q.2⟩, mW_rv hw, fun U hU hW => ⟨rfl, mB_mv hw hD hU hW⟩⟩ rfl rfl hl.1 rfl (lv_room (Nat.le_of_ble_eq_true rfl)) dX7_between_51 ⟨Nat.zero_le _, Nat.zero_le _⟩) hS (fun q _ h => hFc q h) hFc (fun r_51 S_2 t H1 locs ht hvm hw1 hB hz1 hk1 hS => ?_)
      obtain ⟨hP, -, hD1⟩ := hB
      rw [ht] at hP
      have hD := hD1.weaken (fun k q _ h => hFc q.1 h)
      generalize H1 = H at hP hS ⊢
      have hw : mH dC dI o r cI cJ S_2 s H := ⟨hP, hK⟩
      have hm := mA_of hts hw
      have hf : f_X7_between S x1 x2 x3 x4 = (f_X7_between_6 r_51 (f_X7_compare S_2 x1 x2 x4)) := hf.trans (congrArg (fun z => (f_X7_between_7 z x1 x2 x4)) hw1.symm)
      have hI : mInv S_2 := (by rw [show S_2 = _ from congrArg Prod.snd hw1]; exact compare_inv hI)
      refine lv_istore (lv' := [(6, .int r_51), (5, .int v5_1), (0, .ref o), (1, .int x1), (2, .int x2), (3, .int x3), (4, .int x4)]) hx hb dX7_between_54 hl (by decide) rfl (fun ls hl => ?_)
      refine lv_aload_n hx hb dX7_between_56 rfl (lv_at hl 2 rfl) ?_
      refine lv_iload_n hx hb dX7_between_57 rfl (lv_at hl 3 rfl) ?_
      refine lv_iload_n hx hb dX7_between_58 rfl (lv_at hl 4 rfl) ?_
      refine lv_iload hx hb dX7_between_59 (lv_at hl 6 rfl) ?_
      have hFc := va_free (wc := mWs o r cI cJ S_2) hD hS hA [0, 1, 2, 3, 4, 5, 6, 7, 8, 9, 10, 11, 12, 13, 14, 15, 16] rfl
      refine va_calli (va_runV (As := [.int x1, .int x2, .int x4]) (rest := []) ⟨hx, hb, hml, hown, hts⟩ (c_X7_compare l dC dI o r cI cJ H.size S_2 x1 x2 x4 hI) (cwV 3 hts (gV iX7_compare (zin__r15 (.methodLink RX7 167 yX7_compare) (List.mem_of_getElem? (i := 1) rfl))) rfl rfl rfl (by decide +kernel) ⟨Nat.le_of_ble_eq_true rfl, Nat.le_of_ble_eq_true rfl⟩) ⟨fun a U g mk q => ⟨q.1, mB_bl q.2⟩, mW_rv hw, fun U hU hW => ⟨rfl, mB_mv hw hD hU hW⟩⟩ rfl rfl hl.1 rfl (lv_room (Nat.le_of_ble_eq_true rfl)) dX7_between_61 ⟨Nat.zero_le _, Nat.zero_le _⟩) hS (fun q _ h => hFc q h) hFc (fun r_61 S_3 t H1 locs ht hvm hw1 hB hz1 hk1 hS => ?_)
      obtain ⟨hP, -, hD1⟩ := hB
      rw [ht] at hP
      have hD := hD1.weaken (fun k q _ h => hFc q.1 h)
      generalize H1 = H at hP hS ⊢
      have hw : mH dC dI o r cI cJ S_3 s H := ⟨hP, hK⟩
      have hm := mA_of hts hw
      have hf : f_X7_between S x1 x2 x3 x4 = (f_X7_between_5 r_51 r_61 S_3) := hf.trans (congrArg (fun z => (f_X7_between_6 r_51 z)) hw1.symm)
      refine lv_istore (lv' := [(7, .int r_61), (6, .int r_51), (5, .int v5_1), (0, .ref o), (1, .int x1), (2, .int x2), (3, .int x3), (4, .int x4)]) hx hb dX7_between_64 hl (by decide) rfl (fun ls hl => ?_)
      refine lv_iload hx hb dX7_between_66 (lv_at hl 1 rfl) ?_
      refine lv_bipush (v := 16) hx hb dX7_between_68 (by decide) ?_
      refine lv_iand hx hb dX7_between_70 ?_
      refine W_cut (α := Int32) (pcJ := 87) (nL := 8) (fun v => f_X7_between S x1 x2 x3 x4 = (f_X7_between_2 r_51 r_61 v S_3)) (fun v => [.int v]) (fun v => [(6, .int r_51), (7, .int r_61)]) (fun w_4 ls hf hl => ?_) (fun K_87 => ?_)
      · have hf : f_X7_between S x1 x2 x3 x4 = (f_X7_between_2 r_51 r_61 w_4 S_3) := hf
        have hl : lv_has ls 8 [(6, .int r_51), (7, .int r_61)] := hl
        refine lv_iload hx hb dX7_between_87 (lv_at hl 0 rfl) ?_
        refine lv_iconst (v := 1) hx hb dX7_between_89 (by decide) ?_
        refine lv_iand hx hb dX7_between_90 ?_
        refine lv_if_ne (tgt := 105) hx hb dX7_between_91 (by decide) (fun c_91 => ?_) (fun c_91 => ?_)
        · have hf : f_X7_between S x1 x2 x3 x4 = ((w_4 + (0 : Int32)), S_3) := hf.trans (if_neg c_91)
          refine lv_iconst (v := 0) hx hb dX7_between_105 (by decide) ?_
          refine lv_iadd hx hb dX7_between_106 ?_
          exact W.iret hx hb hr (fun t ht hW => ⟨⟨_, S_3, rfl, hf.symm, by rw [ht]; exact hP, va_K.moved hW.alike hK, hD⟩, hS.F ht⟩) hS.2.2 dX7_between_107
        · have hf : f_X7_between S x1 x2 x3 x4 = (f_X7_between_1 r_61 w_4 S_3) := hf.trans (if_pos c_91)
          refine lv_iload hx hb dX7_between_94 (lv_at hl 1 rfl) ?_
          refine lv_iconst (v := 4) hx hb dX7_between_96 (by decide) ?_
          refine lv_iand hx hb dX7_between_97 ?_
          refine lv_if_ne (tgt := 105) hx hb dX7_between_98 (by decide) (fun c_98 => ?_) (fun c_98 => ?_)
          · have hf : f_X7_between S x1 x2 x3 x4 = ((w_4 + (0 : Int32)), S_3) := hf.trans (if_neg c_98)
            refine lv_iconst (v := 0) hx hb dX7_between_105 (by decide) ?_
            refine lv_iadd hx hb dX7_between_106 ?_
            exact W.iret hx hb hr (fun t ht hW => ⟨⟨_, S_3, rfl, hf.symm, by rw [ht]; exact hP, va_K.moved hW.alike hK, hD⟩, hS.F ht⟩) hS.2.2 dX7_between_107
          · have hf : f_X7_between S x1 x2 x3 x4 = ((w_4 + (2 : Int32)), S_3) := hf.trans (if_pos c_98)
            refine lv_iconst (v := 2) hx hb dX7_between_101 (by decide) ?_
            refine lv_goto (tgt := 106) hx hb dX7_between_102 (by decide) ?_
            refine lv_iadd hx hb dX7_between_106 ?_
            exact W.iret hx hb hr (fun t ht hW => ⟨⟨_, S_3, rfl, hf.symm, by rw [ht]; exact hP, va_K.moved hW.alike hK, hD⟩, hS.F ht⟩) hS.2.2 dX7_between_107
      refine W_cut (α := Unit) (pcJ := 86) (nL := 8) (fun v => f_X7_between S x1 x2 x3 x4 = (f_X7_between_3 r_51 r_61 S_3)) (fun v => []) (fun v => [(6, .int r_51), (7, .int r_61)]) (fun v ls hf hl => ?_) (fun K_86 => ?_)
      · have hf : f_X7_between S x1 x2 x3 x4 = (f_X7_between_2 r_51 r_61 (0 : Int32) S_3) := hf
        have hl : lv_has ls 8 [(6, .int r_51), (7, .int r_61)] := hl
        refine lv_iconst (v := 0) hx hb dX7_between_86 (by decide) ?_
        exact K_87 (0 : Int32) ls hf (lv_sub hl [0, 1] rfl)
      refine lv_if_eq (tgt := 86) hx hb dX7_between_71 (by decide) (fun c_71 => ?_) (fun c_71 => ?_)
      · have hf : f_X7_between S x1 x2 x3 x4 = (f_X7_between_3 r_51 r_61 S_3) := hf.trans (if_pos c_71)
        exact K_86 () ls hf (lv_sub hl [1, 0] rfl)
      · have hf : f_X7_between S x1 x2 x3 x4 = (f_X7_between_4 r_61 r_51 S_3) := hf.trans (if_neg c_71)
        refine lv_iload hx hb dX7_between_74 (lv_at hl 0 rfl) ?_
        refine lv_bipush (v := 8) hx hb dX7_between_76 (by decide) ?_
        refine lv_iand hx hb dX7_between_78 ?_
        refine lv_if_eq (tgt := 86) hx hb dX7_between_79 (by decide) (fun c_79 => ?_) (fun c_79 => ?_)
        · have hf : f_X7_between S x1 x2 x3 x4 = (f_X7_between_3 r_51 r_61 S_3) := hf.trans (if_pos c_79)
          exact K_86 () ls hf (lv_sub hl [1, 0] rfl)
        · have hf : f_X7_between S x1 x2 x3 x4 = (f_X7_between_2 r_51 r_61 (1 : Int32) S_3) := hf.trans (if_neg c_79)
          refine lv_iconst (v := 1) hx hb dX7_between_82 (by decide) ?_
          refine lv_goto (tgt := 87) hx hb dX7_between_83 (by decide) ?_
          exact K_87 (1 : Int32) ls hf (lv_sub hl [1, 0] rfl)
    · have hf : f_X7_between S x1 x2 x3 x4 = (f_X7_between_8 (f_X7_no S v5_1)) := hf.trans (if_neg c_37)
      refine lv_aload_n hx hb dX7_between_40 rfl (lv_at hl 1 rfl) ?_
      refine lv_iload hx hb dX7_between_41 (lv_at hl 0 rfl) ?_
      have hFc := va_free (wc := mWs o r cI cJ S) hD hS hA [0, 1, 2, 3, 4, 5, 6, 7, 8, 9, 10, 11, 12, 13, 14, 15, 16] rfl
      refine va_calli (va_runV (As := [.int v5_1]) (rest := []) ⟨hx, hb, hml, hown, hts⟩ (c_X7_no l dC dI o r cI cJ s.heap.size S v5_1) (cwV 1 hts (gV iX7_no (zin__r4 (.methodLink RX7 139 yX7_no) (List.mem_of_getElem? (i := 14) rfl))) rfl rfl rfl (by decide +kernel) ⟨Nat.le_of_ble_eq_true rfl, Nat.le_of_ble_eq_true rfl⟩) ⟨fun a U g mk q => ⟨q.1, mB_bl q.2⟩, mW_rv hw, fun U hU hW => ⟨rfl, mB_mv hw hD hU hW⟩⟩ rfl rfl hl.1 rfl (lv_room (Nat.le_of_ble_eq_true rfl)) dX7_between_43 ⟨Nat.zero_le _, Nat.zero_le _⟩) hS (fun q _ h => hFc q h) hFc (fun r_43 S_5 t H1 locs ht hvm hw1 hB hz1 hk1 hS => ?_)
      obtain ⟨hP, -, hD1⟩ := hB
      rw [ht] at hP
      have hD := hD1.weaken (fun k q _ h => hFc q.1 h)
      generalize H1 = H at hP hS ⊢
      have hw : mH dC dI o r cI cJ S_5 s H := ⟨hP, hK⟩
      have hm := mA_of hts hw
      have hf : f_X7_between S x1 x2 x3 x4 = (r_43, S_5) := hf.trans (congrArg (fun z => (f_X7_between_8 z)) hw1.symm)
      exact W.iret hx hb hr (fun t ht hW => ⟨⟨_, S_5, rfl, hf.symm, by rw [ht]; exact hP, va_K.moved hW.alike hK, hD⟩, hS.F ht⟩) hS.2.2 dX7_between_46
  · have hf : f_X7_between S x1 x2 x3 x4 = (f_X7_between_12 S x1 x3 x4 v5_1 x2) := hf.trans (if_pos c_10)
    have hL0 : mPl S x1 x2 := why_ok0 hI e_v5_1 c_10
    refine lv_aload_n hx hb dX7_between_13 rfl (lv_at hl 1 rfl) ?_
    refine lv_iload_n hx hb dX7_between_14 rfl (lv_at hl 2 rfl) ?_
    refine lv_iload_n hx hb dX7_between_15 rfl (lv_at hl 4 rfl) ?_
    refine vp_callSi (va_Run.run (va_runV (As := [.int x1, .int x3]) (rest := []) ⟨hx, hb, hml, hown, hts⟩ (c_X7_outside l dC dI o r cI cJ S x1 x3 hI (mPl.row hL0)) (cwV 2 hts (gV iX7_outside (zin__r14 (.methodLink RX7 163 yX7_outside) (List.mem_of_getElem? (i := 7) rfl))) rfl rfl rfl (by decide +kernel) ⟨Nat.le_of_ble_eq_true rfl, Nat.le_of_ble_eq_true rfl⟩) ⟨fun a U g mk q => ⟨q.1, mW_bl q.2⟩, (mW_rv hw), fun U hU hW => ⟨rfl, mW_mv hw hU hW⟩⟩ rfl rfl hl.1 rfl (lv_room (Nat.le_of_ble_eq_true rfl)) dX7_between_16 ⟨Nat.zero_le _, Nat.zero_le _⟩)) (fun r_16 hr_16 => ?_)
    subst hr_16
    refine W_cut (α := Unit) (pcJ := 32) (nL := 8) (fun v => f_X7_between S x1 x2 x3 x4 = (f_X7_between_10 S)) (fun v => []) (fun v => [(0, .ref o), (1, .int x1), (2, .int x2), (3, .int x3), (4, .int x4)]) (fun v ls hf hl => ?_) (fun K_32 => ?_)
    · have hf : f_X7_between S x1 x2 x3 x4 = (f_X7_between_8 (f_X7_no S (2 : Int32))) := hf
      have hl : lv_has ls 8 [(0, .ref o), (1, .int x1), (2, .int x2), (3, .int x3), (4, .int x4)] := hl
      refine lv_iconst (v := 2) hx hb dX7_between_32 (by decide) ?_
      refine lv_istore (lv' := [(5, .int (2 : Int32)), (0, .ref o), (1, .int x1), (2, .int x2), (3, .int x3), (4, .int x4)]) hx hb dX7_between_33 hl (by decide) rfl (fun ls hl => ?_)
      refine lv_iload hx hb dX7_between_35 (lv_at hl 0 rfl) ?_
      refine lv_if_le (tgt := 47) hx hb dX7_between_37 (by decide) (fun c_37 => ?_) (fun c_37 => ?_)
      · exact absurd c_37 (by decide)
      · refine lv_aload_n hx hb dX7_between_40 rfl (lv_at hl 1 rfl) ?_
        refine lv_iload hx hb dX7_between_41 (lv_at hl 0 rfl) ?_
        have hFc := va_free (wc := mWs o r cI cJ S) hD hS hA [0, 1, 2, 3, 4, 5, 6, 7, 8, 9, 10, 11, 12, 13, 14, 15, 16] rfl
        refine va_calli (va_runV (As := [.int (2 : Int32)]) (rest := []) ⟨hx, hb, hml, hown, hts⟩ (c_X7_no l dC dI o r cI cJ s.heap.size S (2 : Int32)) (cwV 1 hts (gV iX7_no (zin__r4 (.methodLink RX7 139 yX7_no) (List.mem_of_getElem? (i := 14) rfl))) rfl rfl rfl (by decide +kernel) ⟨Nat.le_of_ble_eq_true rfl, Nat.le_of_ble_eq_true rfl⟩) ⟨fun a U g mk q => ⟨q.1, mB_bl q.2⟩, mW_rv hw, fun U hU hW => ⟨rfl, mB_mv hw hD hU hW⟩⟩ rfl rfl hl.1 rfl (lv_room (Nat.le_of_ble_eq_true rfl)) dX7_between_43 ⟨Nat.zero_le _, Nat.zero_le _⟩) hS (fun q _ h => hFc q h) hFc (fun r_43 S_6 t H1 locs ht hvm hw1 hB hz1 hk1 hS => ?_)
        obtain ⟨hP, -, hD1⟩ := hB
        rw [ht] at hP
        have hD := hD1.weaken (fun k q _ h => hFc q.1 h)
        generalize H1 = H at hP hS ⊢
        have hw : mH dC dI o r cI cJ S_6 s H := ⟨hP, hK⟩
        have hm := mA_of hts hw
        have hf : f_X7_between S x1 x2 x3 x4 = (r_43, S_6) := hf.trans (congrArg (fun z => (f_X7_between_8 z)) hw1.symm)
        exact W.iret hx hb hr (fun t ht hW => ⟨⟨_, S_6, rfl, hf.symm, by rw [ht]; exact hP, va_K.moved hW.alike hK, hD⟩, hS.F ht⟩) hS.2.2 dX7_between_46
    refine lv_if_ne (tgt := 32) hx hb dX7_between_19 (by decide) (fun c_19 => ?_) (fun c_19 => ?_)
    · have hf : f_X7_between S x1 x2 x3 x4 = (f_X7_between_10 S) := hf.trans (if_neg c_19)
      exact K_32 () ls hf (lv_sub hl [1, 2, 3, 4, 5] rfl)
    · have hf : f_X7_between S x1 x2 x3 x4 = (f_X7_between_11 S x1 x4 v5_1 x2 x3) := hf.trans (if_pos c_19)
      refine lv_aload_n hx hb dX7_between_22 rfl (lv_at hl 1 rfl) ?_
      refine lv_iload_n hx hb dX7_between_23 rfl (lv_at hl 2 rfl) ?_
      refine lv_iload hx hb dX7_between_24 (lv_at hl 5 rfl) ?_
      refine vp_callSi (va_Run.run (va_runV (As := [.int x1, .int x4]) (rest := []) ⟨hx, hb, hml, hown, hts⟩ (c_X7_outside l dC dI o r cI cJ S x1 x4 hI (mPl.row hL0)) (cwV 2 hts (gV iX7_outside (zin__r14 (.methodLink RX7 163 yX7_outside) (List.mem_of_getElem? (i := 7) rfl))) rfl rfl rfl (by decide +kernel) ⟨Nat.le_of_ble_eq_true rfl, Nat.le_of_ble_eq_true rfl⟩) ⟨fun a U g mk q => ⟨q.1, mW_bl q.2⟩, (mW_rv hw), fun U hU hW => ⟨rfl, mW_mv hw hU hW⟩⟩ rfl rfl hl.1 rfl (lv_room (Nat.le_of_ble_eq_true rfl)) dX7_between_26 ⟨Nat.zero_le _, Nat.zero_le _⟩)) (fun r_26 hr_26 => ?_)
      subst hr_26
      refine lv_if_eq (tgt := 35) hx hb dX7_between_29 (by decide) (fun c_29 => ?_) (fun c_29 => ?_)
      · have hf : f_X7_between S x1 x2 x3 x4 = (f_X7_between_9 v5_1 S x1 x2 x3 x4) := hf.trans (if_pos c_29)
        refine lv_iload hx hb dX7_between_35 (lv_at hl 0 rfl) ?_
        refine lv_if_le (tgt := 47) hx hb dX7_between_37 (by decide) (fun c_37 => ?_) (fun c_37 => ?_)
        · have hf : f_X7_between S x1 x2 x3 x4 = (f_X7_between_7 (f_X7_compare S x1 x2 x3) x1 x2 x4) := hf.trans (if_pos c_37)
          refine lv_aload_n hx hb dX7_between_47 rfl (lv_at hl 1 rfl) ?_
          refine lv_iload_n hx hb dX7_between_48 rfl (lv_at hl 2 rfl) ?_
          refine lv_iload_n hx hb dX7_between_49 rfl (lv_at hl 3 rfl) ?_
          refine lv_iload_n hx hb dX7_between_50 rfl (lv_at hl 4 rfl) ?_
          have hFc := va_free (wc := mWs o r cI cJ S) hD hS hA [0, 1, 2, 3, 4, 5, 6, 7, 8, 9, 10, 11, 12, 13, 14, 15, 16] rfl
          refine va_calli (va_runV (As := [.int x1, .int x2, .int x3]) (rest := []) ⟨hx, hb, hml, hown, hts⟩ (c_X7_compare l dC dI o r cI cJ s.heap.size S x1 x2 x3 hI) (cwV 3 hts (gV iX7_compare (zin__r15 (.methodLink RX7 167 yX7_compare) (List.mem_of_getElem? (i := 1) rfl))) rfl rfl rfl (by decide +kernel) ⟨Nat.le_of_ble_eq_true rfl, Nat.le_of_ble_eq_true rfl⟩) ⟨fun a U g mk q => ⟨q.1, mB_bl q.2⟩, mW_rv hw, fun U hU hW => ⟨rfl, mB_mv hw hD hU hW⟩⟩ rfl rfl hl.1 rfl (lv_room (Nat.le_of_ble_eq_true rfl)) dX7_between_51 ⟨Nat.zero_le _, Nat.zero_le _⟩) hS (fun q _ h => hFc q h) hFc (fun r_51 S_7 t H1 locs ht hvm hw1 hB hz1 hk1 hS => ?_)
          obtain ⟨hP, -, hD1⟩ := hB
          rw [ht] at hP
          have hD := hD1.weaken (fun k q _ h => hFc q.1 h)
          generalize H1 = H at hP hS ⊢
          have hw : mH dC dI o r cI cJ S_7 s H := ⟨hP, hK⟩
          have hm := mA_of hts hw
          have hf : f_X7_between S x1 x2 x3 x4 = (f_X7_between_6 r_51 (f_X7_compare S_7 x1 x2 x4)) := hf.trans (congrArg (fun z => (f_X7_between_7 z x1 x2 x4)) hw1.symm)
          have hI : mInv S_7 := (by rw [show S_7 = _ from congrArg Prod.snd hw1]; exact compare_inv hI)
          refine lv_istore (lv' := [(6, .int r_51), (5, .int v5_1), (0, .ref o), (1, .int x1), (2, .int x2), (3, .int x3), (4, .int x4)]) hx hb dX7_between_54 hl (by decide) rfl (fun ls hl => ?_)
          refine lv_aload_n hx hb dX7_between_56 rfl (lv_at hl 2 rfl) ?_
          refine lv_iload_n hx hb dX7_between_57 rfl (lv_at hl 3 rfl) ?_
          refine lv_iload_n hx hb dX7_between_58 rfl (lv_at hl 4 rfl) ?_
          refine lv_iload hx hb dX7_between_59 (lv_at hl 6 rfl) ?_
          have hFc := va_free (wc := mWs o r cI cJ S_7) hD hS hA [0, 1, 2, 3, 4, 5, 6, 7, 8, 9, 10, 11, 12, 13, 14, 15, 16] rfl
          refine va_calli (va_runV (As := [.int x1, .int x2, .int x4]) (rest := []) ⟨hx, hb, hml, hown, hts⟩ (c_X7_compare l dC dI o r cI cJ H.size S_7 x1 x2 x4 hI) (cwV 3 hts (gV iX7_compare (zin__r15 (.methodLink RX7 167 yX7_compare) (List.mem_of_getElem? (i := 1) rfl))) rfl rfl rfl (by decide +kernel) ⟨Nat.le_of_ble_eq_true rfl, Nat.le_of_ble_eq_true rfl⟩) ⟨fun a U g mk q => ⟨q.1, mB_bl q.2⟩, mW_rv hw, fun U hU hW => ⟨rfl, mB_mv hw hD hU hW⟩⟩ rfl rfl hl.1 rfl (lv_room (Nat.le_of_ble_eq_true rfl)) dX7_between_61 ⟨Nat.zero_le _, Nat.zero_le _⟩) hS (fun q _ h => hFc q h) hFc (fun r_61 S_8 t H1 locs ht hvm hw1 hB hz1 hk1 hS => ?_)
          obtain ⟨hP, -, hD1⟩ := hB
          rw [ht] at hP
          have hD := hD1.weaken (fun k q _ h => hFc q.1 h)
          generalize H1 = H at hP hS ⊢
          have hw : mH dC dI o r cI cJ S_8 s H := ⟨hP, hK⟩
          have hm := mA_of hts hw
          have hf : f_X7_between S x1 x2 x3 x4 = (f_X7_between_5 r_51 r_61 S_8) := hf.trans (congrArg (fun z => (f_X7_between_6 r_51 z)) hw1.symm)
          refine lv_istore (lv' := [(7, .int r_61), (6, .int r_51), (5, .int v5_1), (0, .ref o), (1, .int x1), (2, .int x2), (3, .int x3), (4, .int x4)]) hx hb dX7_between_64 hl (by decide) rfl (fun ls hl => ?_)
          refine lv_iload hx hb dX7_between_66 (lv_at hl 1 rfl) ?_
          refine lv_bipush (v := 16) hx hb dX7_between_68 (by decide) ?_
          refine lv_iand hx hb dX7_between_70 ?_
          refine W_cut (α := Int32) (pcJ := 87) (nL := 8) (fun v => f_X7_between S x1 x2 x3 x4 = (f_X7_between_2 r_51 r_61 v S_8)) (fun v => [.int v]) (fun v => [(6, .int r_51), (7, .int r_61)]) (fun w_9 ls hf hl => ?_) (fun K_87 => ?_)
          · have hf : f_X7_between S x1 x2 x3 x4 = (f_X7_between_2 r_51 r_61 w_9 S_8) := hf
            have hl : lv_has ls 8 [(6, .int r_51), (7, .int r_61)] := hl
            refine lv_iload hx hb dX7_between_87 (lv_at hl 0 rfl) ?_
            refine lv_iconst (v := 1) hx hb dX7_between_89 (by decide) ?_
            refine lv_iand hx hb dX7_between_90 ?_
            refine lv_if_ne (tgt := 105) hx hb dX7_between_91 (by decide) (fun c_91 => ?_) (fun c_91 => ?_)
            · have hf : f_X7_between S x1 x2 x3 x4 = ((w_9 + (0 : Int32)), S_8) := hf.trans (if_neg c_91)
              refine lv_iconst (v := 0) hx hb dX7_between_105 (by decide) ?_
              refine lv_iadd hx hb dX7_between_106 ?_
              exact W.iret hx hb hr (fun t ht hW => ⟨⟨_, S_8, rfl, hf.symm, by rw [ht]; exact hP, va_K.moved hW.alike hK, hD⟩, hS.F ht⟩) hS.2.2 dX7_between_107
            · have hf : f_X7_between S x1 x2 x3 x4 = (f_X7_between_1 r_61 w_9 S_8) := hf.trans (if_pos c_91)
              refine lv_iload hx hb dX7_between_94 (lv_at hl 1 rfl) ?_
              refine lv_iconst (v := 4) hx hb dX7_between_96 (by decide) ?_
              refine lv_iand hx hb dX7_between_97 ?_
              refine lv_if_ne (tgt := 105) hx hb dX7_between_98 (by decide) (fun c_98 => ?_) (fun c_98 => ?_)
              · have hf : f_X7_between S x1 x2 x3 x4 = ((w_9 + (0 : Int32)), S_8) := hf.trans (if_neg c_98)
                refine lv_iconst (v := 0) hx hb dX7_between_105 (by decide) ?_
                refine lv_iadd hx hb dX7_between_106 ?_
                exact W.iret hx hb hr (fun t ht hW => ⟨⟨_, S_8, rfl, hf.symm, by rw [ht]; exact hP, va_K.moved hW.alike hK, hD⟩, hS.F ht⟩) hS.2.2 dX7_between_107
              · have hf : f_X7_between S x1 x2 x3 x4 = ((w_9 + (2 : Int32)), S_8) := hf.trans (if_pos c_98)
                refine lv_iconst (v := 2) hx hb dX7_between_101 (by decide) ?_
                refine lv_goto (tgt := 106) hx hb dX7_between_102 (by decide) ?_
                refine lv_iadd hx hb dX7_between_106 ?_
                exact W.iret hx hb hr (fun t ht hW => ⟨⟨_, S_8, rfl, hf.symm, by rw [ht]; exact hP, va_K.moved hW.alike hK, hD⟩, hS.F ht⟩) hS.2.2 dX7_between_107
          refine W_cut (α := Unit) (pcJ := 86) (nL := 8) (fun v => f_X7_between S x1 x2 x3 x4 = (f_X7_between_3 r_51 r_61 S_8)) (fun v => []) (fun v => [(6, .int r_51), (7, .int r_61)]) (fun v ls hf hl => ?_) (fun K_86 => ?_)
          · have hf : f_X7_between S x1 x2 x3 x4 = (f_X7_between_2 r_51 r_61 (0 : Int32) S_8) := hf
            have hl : lv_has ls 8 [(6, .int r_51), (7, .int r_61)] := hl
            refine lv_iconst (v := 0) hx hb dX7_between_86 (by decide) ?_
            exact K_87 (0 : Int32) ls hf (lv_sub hl [0, 1] rfl)
          refine lv_if_eq (tgt := 86) hx hb dX7_between_71 (by decide) (fun c_71 => ?_) (fun c_71 => ?_)
          · have hf : f_X7_between S x1 x2 x3 x4 = (f_X7_between_3 r_51 r_61 S_8) := hf.trans (if_pos c_71)
            exact K_86 () ls hf (lv_sub hl [1, 0] rfl)
          · have hf : f_X7_between S x1 x2 x3 x4 = (f_X7_between_4 r_61 r_51 S_8) := hf.trans (if_neg c_71)
            refine lv_iload hx hb dX7_between_74 (lv_at hl 0 rfl) ?_
            refine lv_bipush (v := 8) hx hb dX7_between_76 (by decide) ?_
            refine lv_iand hx hb dX7_between_78 ?_
            refine lv_if_eq (tgt := 86) hx hb dX7_between_79 (by decide) (fun c_79 => ?_) (fun c_79 => ?_)
            · have hf : f_X7_between S x1 x2 x3 x4 = (f_X7_between_3 r_51 r_61 S_8) := hf.trans (if_pos c_79)
              exact K_86 () ls hf (lv_sub hl [1, 0] rfl)
            · have hf : f_X7_between S x1 x2 x3 x4 = (f_X7_between_2 r_51 r_61 (1 : Int32) S_8) := hf.trans (if_neg c_79)
              refine lv_iconst (v := 1) hx hb dX7_between_82 (by decide) ?_
              refine lv_goto (tgt := 87) hx hb dX7_between_83 (by decide) ?_
              exact K_87 (1 : Int32) ls hf (lv_sub hl [1, 0] rfl)
        · have hf : f_X7_between S x1 x2 x3 x4 = (f_X7_between_8 (f_X7_no S v5_1)) := hf.trans (if_neg c_37)
          refine lv_aload_n hx hb dX7_between_40 rfl (lv_at hl 1 rfl) ?_
          refine lv_iload hx hb dX7_between_41 (lv_at hl 0 rfl) ?_
          have hFc := va_free (wc := mWs o r cI cJ S) hD hS hA [0, 1, 2, 3, 4, 5, 6, 7, 8, 9, 10, 11, 12, 13, 14, 15, 16] rfl
          refine va_calli (va_runV (As := [.int v5_1]) (rest := []) ⟨hx, hb, hml, hown, hts⟩ (c_X7_no l dC dI o r cI cJ s.heap.size S v5_1) (cwV 1 hts (gV iX7_no (zin__r4 (.methodLink RX7 139 yX7_no) (List.mem_of_getElem? (i := 14) rfl))) rfl rfl rfl (by decide +kernel) ⟨Nat.le_of_ble_eq_true rfl, Nat.le_of_ble_eq_true rfl⟩) ⟨fun a U g mk q => ⟨q.1, mB_bl q.2⟩, mW_rv hw, fun U hU hW => ⟨rfl, mB_mv hw hD hU hW⟩⟩ rfl rfl hl.1 rfl (lv_room (Nat.le_of_ble_eq_true rfl)) dX7_between_43 ⟨Nat.zero_le _, Nat.zero_le _⟩) hS (fun q _ h => hFc q h) hFc (fun r_43 S_10 t H1 locs ht hvm hw1 hB hz1 hk1 hS => ?_)
          obtain ⟨hP, -, hD1⟩ := hB
          rw [ht] at hP
          have hD := hD1.weaken (fun k q _ h => hFc q.1 h)
          generalize H1 = H at hP hS ⊢
          have hw : mH dC dI o r cI cJ S_10 s H := ⟨hP, hK⟩
          have hm := mA_of hts hw
          have hf : f_X7_between S x1 x2 x3 x4 = (r_43, S_10) := hf.trans (congrArg (fun z => (f_X7_between_8 z)) hw1.symm)
          exact W.iret hx hb hr (fun t ht hW => ⟨⟨_, S_10, rfl, hf.symm, by rw [ht]; exact hP, va_K.moved hW.alike hK, hD⟩, hS.F ht⟩) hS.2.2 dX7_between_46
      · have hf : f_X7_between S x1 x2 x3 x4 = (f_X7_between_10 S) := hf.trans (if_neg c_29)
        exact K_32 () ls hf (lv_sub hl [1, 2, 3, 4, 5] rfl)
def f_X7_farthest_1 (p9 : Int32 × MSt) : Int32 × MSt := (p9.1, p9.2)
def f_X7_farthest_2 (S : MSt) : Int32 × MSt := (f_X7_farthest_1 (f_X7_no S (1 : Int32)))
def f_X7_farthest_3 (S_2 : MSt) (x1 : Int32) (q4 : Int32) (q5 : Int32) (rec_36 : Int32 → Int32 → (Int32 × MSt)) : Int32 × MSt := if (f_X7_rank (mk S_2 x1.toNatClampNeg) (f_X7_at S_2 x1 q4)) ≤ (f_X7_rank (mk S_2 x1.toNatClampNeg) (f_X7_at S_2 x1 q5)) then (rec_36 q4 (q5 + (1 : Int32))) else (rec_36 q5 (q5 + (1 : Int32)))
def f_X7_farthest_4 (S_2 : MSt) (x1 : Int32) (q5 : Int32) (q4 : Int32) (rec_36 : Int32 → Int32 → (Int32 × MSt)) : Int32 × MSt := if (f_X7_rank (mk S_2 x1.toNatClampNeg) (f_X7_at S_2 x1 q5)) ≤ (f_X7_rank (mk S_2 x1.toNatClampNeg) (f_X7_at S_2 x1 q4)) then (rec_36 q4 (q5 + (1 : Int32))) else (rec_36 q5 (q5 + (1 : Int32)))
def f_X7_farthest_5 (x2 : Int32) (S_2 : MSt) (x1 : Int32) (q4 : Int32) (q5 : Int32) (rec_36 : Int32 → Int32 → (Int32 × MSt)) : Int32 × MSt := if x2 = 0 then (f_X7_farthest_3 S_2 x1 q4 q5 rec_36) else (f_X7_farthest_4 S_2 x1 q5 q4 rec_36)
def f_X7_farthest_6 (q4 : Int32) (rec_36 : Int32 → Int32 → (Int32 × MSt)) (q5 : Int32) (x2 : Int32) (S_2 : MSt) (x1 : Int32) : Int32 × MSt := if q4 < 0 then (rec_36 q5 (q5 + (1 : Int32))) else (f_X7_farthest_5 x2 S_2 x1 q4 q5 rec_36)
def f_X7_farthest_7 (S_2 : MSt) (x1 : Int32) (q5 : Int32) (q4 : Int32) (rec_36 : Int32 → Int32 → (Int32 × MSt)) (x2 : Int32) : Int32 × MSt := if (f_X7_none (mk S_2 x1.toNatClampNeg) (f_X7_at S_2 x1 q5)) = 0 then (f_X7_farthest_6 q4 rec_36 q5 x2 S_2 x1) else (rec_36 q4 (q5 + (1 : Int32)))
def f_X7_farthest_8 (S_2 : MSt) (x1 : Int32) (q5 : Int32) (q4 : Int32) (rec_36 : Int32 → Int32 → (Int32 × MSt)) (x2 : Int32) : Int32 × MSt := if (f_X7_size S_2 x1) ≤ q5 then (q4, S_2) else (f_X7_farthest_7 S_2 x1 q5 q4 rec_36 x2)
def f_X7_farthest_L36 (x1 : Int32) (x2 : Int32) (S_2 : MSt) : Nat → Int32 → Int32 → Int32 × MSt
  | 0, _, _ => default
  | n + 1, q4, q5 => (f_X7_farthest_8 S_2 x1 q5 q4 (f_X7_farthest_L36 x1 x2 S_2 n) x2)
def f_X7_farthest_10 (x1 : Int32) (S : MSt) (x2 : Int32) : Int32 × MSt := if x1 < (nI (mn S)) then (f_X7_farthest_L36 x1 x2 (mset_s S (0 : Int32)) 501 (-1 : Int32) (0 : Int32)) else (f_X7_farthest_2 S)
def f_X7_farthest_11 (x1 : Int32) (S : MSt) (x2 : Int32) : Int32 × MSt := if x1 < 0 then (f_X7_farthest_2 S) else (f_X7_farthest_10 x1 S x2)
def f_X7_farthest (S : MSt) (x1 : Int32) (x2 : Int32) : Int32 × MSt := (f_X7_farthest_11 x1 S x2)
def zX7_farthest : List Cond := .code yX7_farthest cX7_farthest 6 (some .int) :: zall
theorem iX7_farthest : MWv RX7 yX7_farthest (.code yX7_farthest cX7_farthest 6 (some .int)) := ⟨(zin__r24 (.instanceMethod yX7_farthest) (List.mem_of_getElem? (i := 2) rfl)), (zin__r24 (.selects RX7 yX7_farthest yX7_farthest) (List.mem_of_getElem? (i := 3) rfl)), (zin__r1 (.initialized RX7) (List.mem_of_getElem? (i := 5) rfl)), (zin__r24 (.code yX7_farthest cX7_farthest 6 (some .int)) (List.mem_of_getElem? (i := 4) rfl))⟩
set_option maxHeartbeats 4000000 in
set_option maxRecDepth 100000 in
theorem c_X7_farthest (l : Launch) (dC : Nat → ClassId) (dI : Nat → Nat → Nat) (o : Nat) (r : Nat → Nat) (cI cJ : ClassId) (sz : Nat) (S : MSt) (x1 : Int32) (x2 : Int32) (hI : mInv S) : Met l yX7_farthest zX7_farthest ({ frames := 2, cells := 0, slots := 0, locals := 46 }) (va_Pc [.ref o, .int x1, .int x2] (fun U => mB dC dI o r cI cJ sz S U)) (va_Qi (fun r9 S9 => (r9, S9) = f_X7_farthest S x1 x2) (mE dC dI o r cI cJ (va_A (mWs o r cI cJ S) sz)) (va_A (mWs o r cI cJ S) sz)) 0 0 (va_A (mWs o r cI cJ S) sz) := by
  refine Met.ofW (cc := cX7_farthest) (maxL := 6) (ret := (some .int)) (by decide) rfl ?_
  intro p e s m args below meth c s₁ B hml hv
  obtain ⟨rfl, hsz, hP, hK, hD0⟩ := hv
  have hx := B.exec
  have hb := B.bytes
  have hr := B.returns
  have hts : ∀ w ∈ zall, w.before _ s = true := fun w h => atoms_spec (ws := zX7_farthest) B.pre w (List.mem_cons_of_mem _ h)
  have hown : s.vm.findClass RX7 = some m.cls := findClass_of_methodNamed B.named
  have hlocks := B.notSynchronized
  subst hsz
  have hD := hD0.self (sz := s.heap.size)
  generalize hAe : va_A (mWs o r cI cJ S) s.heap.size = A at hD ⊢
  have hA : ∀ q : Nat, s.heap.size ≤ q → A q := fun q h => by rw [← hAe]; exact Or.inr h
  have hS : va_S A s.heap s.heap [] := va_S.rf
  have hw : mH dC dI o r cI cJ S s s.heap := ⟨hP, hK⟩
  have hm := mA_of hts hw
  have hl := lv_entry ([.ref o, .int x1, .int x2]) (n := 6) (Nat.le_of_ble_eq_true rfl)
  rw [lg_entry_eq]
  generalize (lg_sl ([.ref o, .int x1, .int x2]) ++ List.replicate (6 - (lg_sl ([.ref o, .int x1, .int x2])).length) Slot.unset).toArray = ls at hl ⊢
  have hl : lv_has ls 6 [(0, .ref o), (1, .int x1), (2, .int x2)] := hl
  have hf : f_X7_farthest S x1 x2 = (f_X7_farthest_11 x1 S x2) := rfl
  refine lv_iload_n hx hb dX7_farthest_0 rfl (lv_at hl 1 rfl) ?_
  refine W_cut (α := Unit) (pcJ := 12) (nL := 6) (fun v => f_X7_farthest S x1 x2 = (f_X7_farthest_2 S)) (fun v => []) (fun v => [(0, .ref o)]) (fun v ls hf hl => ?_) (fun K_12 => ?_)
  · have hf : f_X7_farthest S x1 x2 = (f_X7_farthest_1 (f_X7_no S (1 : Int32))) := hf
    have hl : lv_has ls 6 [(0, .ref o)] := hl
    refine lv_aload_n hx hb dX7_farthest_12 rfl (lv_at hl 0 rfl) ?_
    refine lv_iconst (v := 1) hx hb dX7_farthest_13 (by decide) ?_
    have hFc := va_free (wc := mWs o r cI cJ S) hD hS hA [0, 1, 2, 3, 4, 5, 6, 7, 8, 9, 10, 11, 12, 13, 14, 15, 16] rfl
    refine va_calli (va_runV (As := [.int (1 : Int32)]) (rest := []) ⟨hx, hb, hml, hown, hts⟩ (c_X7_no l dC dI o r cI cJ s.heap.size S (1 : Int32)) (cwV 1 hts (gV iX7_no (zin__r4 (.methodLink RX7 139 yX7_no) (List.mem_of_getElem? (i := 14) rfl))) rfl rfl rfl (by decide +kernel) ⟨Nat.le_of_ble_eq_true rfl, Nat.le_of_ble_eq_true rfl⟩) ⟨fun a U g mk q => ⟨q.1, mB_bl q.2⟩, mW_rv hw, fun U hU hW => ⟨rfl, mB_mv hw hD hU hW⟩⟩ rfl rfl hl.1 rfl (lv_room (Nat.le_of_ble_eq_true rfl)) dX7_farthest_14 ⟨Nat.zero_le _, Nat.zero_le _⟩) hS (fun q _ h => hFc q h) hFc (fun r_14 S_1 t H1 locs ht hvm hw1 hB hz1 hk1 hS => ?_)
    obtain ⟨hP, -, hD1⟩ := hB
    rw [ht] at hP
    have hD := hD1.weaken (fun k q _ h => hFc q.1 h)
    generalize H1 = H at hP hS ⊢
    have hw : mH dC dI o r cI cJ S_1 s H := ⟨hP, hK⟩
    have hm := mA_of hts hw
    have hf : f_X7_farthest S x1 x2 = (r_14, S_1) := hf.trans (congrArg (fun z => (f_X7_farthest_1 z)) hw1.symm)
    exact W.iret hx hb hr (fun t ht hW => ⟨⟨_, S_1, rfl, hf.symm, by rw [ht]; exact hP, va_K.moved hW.alike hK, hD⟩, hS.F ht⟩) hS.2.2 dX7_farthest_17
  refine lv_if_lt (tgt := 12) hx hb dX7_farthest_1 (by decide) (fun c_1 => ?_) (fun c_1 => ?_)
  · have hf : f_X7_farthest S x1 x2 = (f_X7_farthest_2 S) := hf.trans (if_pos c_1)
    exact K_12 () ls hf (lv_sub hl [0] rfl)
  · have hf : f_X7_farthest S x1 x2 = (f_X7_farthest_10 x1 S x2) := hf.trans (if_neg c_1)
    refine lv_iload_n hx hb dX7_farthest_4 rfl (lv_at hl 1 rfl) ?_
    refine lv_aload_n hx hb dX7_farthest_5 rfl (lv_at hl 0 rfl) ?_
    refine va_get (D := (dC, dI)) (ci := 5) (v := .int (nI (mn S))) (C := RX7) (T := TX7) (N := 18) hx hb hts zin_X7 hown hK hP 0 rfl rfl 16 (by decide) (hts _ (zin__r4 (.fieldLink RX7 79 "ReckonBenchModel" "rows" "I") (List.mem_of_getElem? (i := 12) rfl))) (fun _ h9 => h9) rfl dX7_farthest_6 ?_
    refine lv_icmp_lt (tgt := 18) hx hb dX7_farthest_9 (by decide) (fun c_9 => ?_) (fun c_9 => ?_)
    · have hf : f_X7_farthest S x1 x2 = (f_X7_farthest_L36 x1 x2 (mset_s S (0 : Int32)) 501 (-1 : Int32) (0 : Int32)) := hf.trans (if_pos c_9)
      have hR : mRow S x1 := row_of hI c_1 c_9
      refine lv_aload_n hx hb dX7_farthest_18 rfl (lv_at hl 0 rfl) ?_
      refine lv_iconst (v := 0) hx hb dX7_farthest_19 (by decide) ?_
      refine va_put (D := (dC, dI)) (ci := 5) (v := .int (0 : Int32)) (ty := .int) (C := RX7) (T := TX7) (N := 18) hx hb hts zin_X7 tyX7 tyX7_ok nmX7 hown hK hP hD hS 0 rfl rfl 17 (by decide) (hts _ (zin__r4 (.fieldLink RX7 75 "ReckonBenchModel" "status" "I") (List.mem_of_getElem? (i := 13) rfl))) (fun _ h9 => h9) rfl (by decide +kernel) rfl rfl (Nat.le_of_ble_eq_true rfl) dX7_farthest_20 (fun H locs hP hD hS => ?_)
      obtain ⟨S_2, e_S_2⟩ : ∃ z : MSt, z = (mset_s S (0 : Int32)) := ⟨_, rfl⟩
      have hP : va_P (dC, dI) vwCl (mWs o r cI cJ S_2) H := by rw [e_S_2]; exact hP
      have hD : va_D A (mWs o r cI cJ S_2) := by rw [e_S_2]; exact hD
      have hw : mH dC dI o r cI cJ S_2 s H := ⟨hP, hK⟩
      have hm := mA_of hts hw
      have hI : mInv S_2 := by rw [e_S_2]; exact hI
      have hR : mRow S_2 x1 := by rw [e_S_2]; exact hR
      have hf : f_X7_farthest S x1 x2 = (f_X7_farthest_L36 x1 x2 S_2 501 (-1 : Int32) (0 : Int32)) := hf.trans (congrArg (fun z => (f_X7_farthest_L36 x1 x2 z 501 (-1 : Int32) (0 : Int32))) e_S_2.symm)
      refine lv_aload_n hx hb dX7_farthest_23 rfl (lv_at hl 0 rfl) ?_
      refine va_get (D := (dC, dI)) (ci := 5) (v := .ref (r 8)) (C := RX7) (T := TX7) (N := 18) hx hb hts zin_X7 hown hK hP 0 rfl rfl 8 (by decide) (hts _ (zin__r3 (.fieldLink RX7 51 "ReckonBenchModel" "kinds" "[I") (List.mem_of_getElem? (i := 2) rfl))) (fun _ h9 => h9) rfl dX7_farthest_24 ?_
      refine lv_iload_n hx hb dX7_farthest_27 rfl (lv_at hl 1 rfl) ?_
      refine va_iald (f := fun j => nI (mk S_2 j)) hx hb hK hP 9 0 rfl rfl (mRow.in2 hI hR) dX7_farthest_28 ?_
      refine lv_istore_n (lv' := [(3, .int (nI (mk S_2 x1.toNatClampNeg))), (0, .ref o), (1, .int x1), (2, .int x2)]) hx hb dX7_farthest_29 rfl hl (by decide) rfl (fun ls hl => ?_)
      refine lv_iconst (v := -1) hx hb dX7_farthest_30 (by decide) ?_
      refine lv_istore (lv' := [(4, .int (-1 : Int32)), (3, .int (nI (mk S_2 x1.toNatClampNeg))), (0, .ref o), (1, .int x1), (2, .int x2)]) hx hb dX7_farthest_31 hl (by decide) rfl (fun ls hl => ?_)
      refine lv_iconst (v := 0) hx hb dX7_farthest_33 (by decide) ?_
      refine lv_istore (lv' := [(5, .int (0 : Int32)), (4, .int (-1 : Int32)), (3, .int (nI (mk S_2 x1.toNatClampNeg))), (0, .ref o), (1, .int x1), (2, .int x2)]) hx hb dX7_farthest_34 hl (by decide) rfl (fun ls hl => ?_)
      refine W_loop (α := Int32 × Int32) (pcJ := 36) (nL := 6) (fun n v => f_X7_farthest S x1 x2 = f_X7_farthest_L36 x1 x2 S_2 n v.1 v.2 ∧ (fInv S_2 x1 v.1 v.2 n)) (fun v => []) (fun v => [(0, .ref o), (1, .int x1), (2, .int x2), (3, .int (nI (mk S_2 x1.toNatClampNeg))), (4, .int v.1), (5, .int v.2)]) (fun v hC => ?_) (fun n_36 ih_36 v ls hC hl => ?_) 501 ((-1 : Int32), (0 : Int32)) ls ⟨hf, fInv.init⟩ (lv_sub hl [3, 4, 5, 2, 1, 0] rfl)
      · obtain ⟨q4, q5⟩ := v
        have hJ : (fInv S_2 x1 q4 q5 (0 : Nat)) := hC.2
        exact fInv.zero hJ
      · obtain ⟨q4, q5⟩ := v
        obtain ⟨hf, hJ⟩ : (f_X7_farthest S x1 x2 = f_X7_farthest_L36 x1 x2 S_2 (n_36 + 1) q4 q5) ∧ (fInv S_2 x1 q4 q5 (Nat.succ n_36)) := hC
        obtain ⟨rec_36, hrec_36⟩ : ∃ z, z = f_X7_farthest_L36 x1 x2 S_2 n_36 := ⟨_, rfl⟩
        have hf : f_X7_farthest S x1 x2 = (f_X7_farthest_8 S_2 x1 q5 q4 rec_36 x2) := by rw [hrec_36]; exact hf
        have hl : lv_has ls 6 [(0, .ref o), (1, .int x1), (2, .int x2), (3, .int (nI (mk S_2 x1.toNatClampNeg))), (4, .int q4), (5, .int q5)] := hl
        refine lv_iload hx hb dX7_farthest_36 (lv_at hl 5 rfl) ?_
        refine lv_aload_n hx hb dX7_farthest_38 rfl (lv_at hl 0 rfl) ?_
        refine lv_iload_n hx hb dX7_farthest_39 rfl (lv_at hl 1 rfl) ?_
        refine vp_callSi (va_Run.run (va_runV (As := [.int x1]) (rest := [.int q5]) ⟨hx, hb, hml, hown, hts⟩ (c_X7_size l dC dI o r cI cJ S_2 x1 (mRow.in1 hI hR) (mRow.in0 hI hR)) (cwV 1 hts (gV iX7_size (zin__r6 (.methodLink RX7 82 yX7_size) (List.mem_of_getElem? (i := 19) rfl))) rfl rfl rfl (by decide +kernel) ⟨Nat.le_of_ble_eq_true rfl, Nat.le_of_ble_eq_true rfl⟩) ⟨fun a U g mk q => ⟨q.1, mW_bl q.2⟩, (mW_rv hw), fun U hU hW => ⟨rfl, mW_mv hw hU hW⟩⟩ rfl rfl hl.1 rfl (lv_room (Nat.le_of_ble_eq_true rfl)) dX7_farthest_40 ⟨Nat.zero_le _, Nat.zero_le _⟩)) (fun r_40 hr_40 => ?_)
        subst hr_40
        refine lv_icmp_ge (tgt := 142) hx hb dX7_farthest_43 (by decide) (fun c_43 => ?_) (fun c_43 => ?_)
        · have hf : f_X7_farthest S x1 x2 = (q4, S_2) := hf.trans (if_pos c_43)
          refine lv_iload hx hb dX7_farthest_142 (lv_at hl 4 rfl) ?_
          exact W.iret hx hb hr (fun t ht hW => ⟨⟨_, S_2, rfl, hf.symm, by rw [ht]; exact hP, va_K.moved hW.alike hK, hD⟩, hS.F ht⟩) hS.2.2 dX7_farthest_144
        · have hf : f_X7_farthest S x1 x2 = (f_X7_farthest_7 S_2 x1 q5 q4 rec_36 x2) := hf.trans (if_neg c_43)
          have h5 : mPl S_2 x1 q5 := fInv.pl hI hR hJ c_43
          refine lv_aload_n hx hb dX7_farthest_46 rfl (lv_at hl 0 rfl) ?_
          refine lv_iload_n hx hb dX7_farthest_47 rfl (lv_at hl 3 rfl) ?_
          refine lv_aload_n hx hb dX7_farthest_48 rfl (lv_at hl 0 rfl) ?_
          refine lv_iload_n hx hb dX7_farthest_49 rfl (lv_at hl 1 rfl) ?_
          refine lv_iload hx hb dX7_farthest_50 (lv_at hl 5 rfl) ?_
          refine vp_callSl (va_Run.run (va_runV (As := [.int x1, .int q5]) (rest := [.int (nI (mk S_2 x1.toNatClampNeg)), .ref o]) ⟨hx, hb, hml, hown, hts⟩ (c_X7_at l dC dI o r cI cJ S_2 x1 q5 (mRow.in0 hI (mPl.row h5)) (mPl.at hI h5)) (cwV 2 hts (gV iX7_at (zin__r11 (.methodLink RX7 155 yX7_at) (List.mem_of_getElem? (i := 2) rfl))) rfl rfl rfl (by decide +kernel) ⟨Nat.le_of_ble_eq_true rfl, Nat.le_of_ble_eq_true rfl⟩) ⟨fun a U g mk q => ⟨q.1, mW_bl q.2⟩, (mW_rv hw), fun U hU hW => ⟨rfl, mW_mv hw hU hW⟩⟩ rfl rfl hl.1 rfl (lv_room (Nat.le_of_ble_eq_true rfl)) dX7_farthest_52 ⟨Nat.zero_le _, Nat.zero_le _⟩)) (fun r_52 hr_52 => ?_)
          subst hr_52
          refine vp_callSi (va_Run.run (va_runV (As := [.int (nI (mk S_2 x1.toNatClampNeg)), .long (f_X7_at S_2 x1 q5)]) (rest := []) ⟨hx, hb, hml, hown, hts⟩ (c_X7_none l o r (mk S_2 x1.toNatClampNeg) (mRow.k hI hR) (f_X7_at S_2 x1 q5)) (cwV 2 hts (gV iX7_none (zin__r7 (.methodLink RX7 98 yX7_none) (List.mem_of_getElem? (i := 17) rfl))) rfl rfl rfl (by decide +kernel) ⟨Nat.le_of_ble_eq_true rfl, Nat.le_of_ble_eq_true rfl⟩) ⟨fun a U g mk q => ⟨q.1, mU_bl q.2⟩, (mW_rv hw), fun U hU hW => ⟨rfl, mU_mvH hm hU hW⟩⟩ rfl rfl hl.1 rfl (lv_room (Nat.le_of_ble_eq_true rfl)) dX7_farthest_55 ⟨Nat.zero_le _, Nat.zero_le _⟩)) (fun r_55 hr_55 => ?_)
          subst hr_55
          refine lv_if_eq (tgt := 64) hx hb dX7_farthest_58 (by decide) (fun c_58 => ?_) (fun c_58 => ?_)
          · have hf : f_X7_farthest S x1 x2 = (f_X7_farthest_6 q4 rec_36 q5 x2 S_2 x1) := hf.trans (if_pos c_58)
            refine lv_iload hx hb dX7_farthest_64 (lv_at hl 4 rfl) ?_
            refine lv_if_lt (tgt := 132) hx hb dX7_farthest_66 (by decide) (fun c_66 => ?_) (fun c_66 => ?_)
            · have hf : f_X7_farthest S x1 x2 = (rec_36 q5 (q5 + (1 : Int32))) := hf.trans (if_pos c_66)
              refine lv_iload hx hb dX7_farthest_132 (lv_at hl 5 rfl) ?_
              refine lv_istore (lv' := [(4, .int q5), (0, .ref o), (1, .int x1), (2, .int x2), (3, .int (nI (mk S_2 x1.toNatClampNeg))), (5, .int q5)]) hx hb dX7_farthest_134 hl (by decide) rfl (fun ls hl => ?_)
              obtain ⟨v5_3, e_v5_3⟩ : ∃ y : Int32, y = (q5 + (1 : Int32)) := ⟨_, rfl⟩
              refine lv_iinc (v := v5_3) (lv' := [(5, .int v5_3), (4, .int q5), (0, .ref o), (1, .int x1), (2, .int x2), (3, .int (nI (mk S_2 x1.toNatClampNeg)))]) hx hb dX7_farthest_136 hl (k := 5) rfl (by rw [e_v5_3]; rfl) (by decide) rfl (fun ls hl => ?_)
              have hf : f_X7_farthest S x1 x2 = (rec_36 q5 v5_3) := hf.trans (congrArg (fun z => (rec_36 q5 z)) e_v5_3.symm)
              refine lv_goto (tgt := 36) hx hb dX7_farthest_139 (by decide) ?_
              exact ih_36 (q5, v5_3) ls ⟨hf.trans (congrFun (congrFun hrec_36 _) _), (by rw [e_v5_3]; first | exact fInv.next hI hJ h5 | exact fInv.take hI hJ h5)⟩ (lv_sub hl [2, 3, 4, 5, 1, 0] rfl)
            · have hf : f_X7_farthest S x1 x2 = (f_X7_farthest_5 x2 S_2 x1 q4 q5 rec_36) := hf.trans (if_neg c_66)
              refine lv_iload_n hx hb dX7_farthest_69 rfl (lv_at hl 2 rfl) ?_
              refine lv_if_eq (tgt := 104) hx hb dX7_farthest_70 (by decide) (fun c_70 => ?_) (fun c_70 => ?_)
              · have hf : f_X7_farthest S x1 x2 = (f_X7_farthest_3 S_2 x1 q4 q5 rec_36) := hf.trans (if_pos c_70)
                have h4 : mPl S_2 x1 q4 := fInv.best hJ c_66
                refine lv_aload_n hx hb dX7_farthest_104 rfl (lv_at hl 0 rfl) ?_
                refine lv_iload_n hx hb dX7_farthest_105 rfl (lv_at hl 3 rfl) ?_
                refine lv_aload_n hx hb dX7_farthest_106 rfl (lv_at hl 0 rfl) ?_
                refine lv_iload_n hx hb dX7_farthest_107 rfl (lv_at hl 1 rfl) ?_
                refine lv_iload hx hb dX7_farthest_108 (lv_at hl 5 rfl) ?_
                refine vp_callSl (va_Run.run (va_runV (As := [.int x1, .int q5]) (rest := [.int (nI (mk S_2 x1.toNatClampNeg)), .ref o]) ⟨hx, hb, hml, hown, hts⟩ (c_X7_at l dC dI o r cI cJ S_2 x1 q5 (mRow.in0 hI (mPl.row h5)) (mPl.at hI h5)) (cwV 2 hts (gV iX7_at (zin__r11 (.methodLink RX7 155 yX7_at) (List.mem_of_getElem? (i := 2) rfl))) rfl rfl rfl (by decide +kernel) ⟨Nat.le_of_ble_eq_true rfl, Nat.le_of_ble_eq_true rfl⟩) ⟨fun a U g mk q => ⟨q.1, mW_bl q.2⟩, (mW_rv hw), fun U hU hW => ⟨rfl, mW_mv hw hU hW⟩⟩ rfl rfl hl.1 rfl (lv_room (Nat.le_of_ble_eq_true rfl)) dX7_farthest_110 ⟨Nat.zero_le _, Nat.zero_le _⟩)) (fun r_110 hr_110 => ?_)
                subst hr_110
                refine vp_callSl (va_Run.run (va_runV (As := [.int (nI (mk S_2 x1.toNatClampNeg)), .long (f_X7_at S_2 x1 q5)]) (rest := []) ⟨hx, hb, hml, hown, hts⟩ (c_X7_rank l o r (mk S_2 x1.toNatClampNeg) (mRow.k hI hR) (f_X7_at S_2 x1 q5)) (cwV 2 hts (gV iX7_rank (zin__r14 (.methodLink RX7 133 yX7_rank) (List.mem_of_getElem? (i := 11) rfl))) rfl rfl rfl (by decide +kernel) ⟨Nat.le_of_ble_eq_true rfl, Nat.le_of_ble_eq_true rfl⟩) ⟨fun a U g mk q => ⟨q.1, mU_bl q.2⟩, (mW_rv hw), fun U hU hW => ⟨rfl, mU_mvH hm hU hW⟩⟩ rfl rfl hl.1 rfl (lv_room (Nat.le_of_ble_eq_true rfl)) dX7_farthest_113 ⟨Nat.zero_le _, Nat.zero_le _⟩)) (fun r_113 hr_113 => ?_)
                subst hr_113
                refine lv_aload_n hx hb dX7_farthest_116 rfl (lv_at hl 0 rfl) ?_
                refine lv_iload_n hx hb dX7_farthest_117 rfl (lv_at hl 3 rfl) ?_
                refine lv_aload_n hx hb dX7_farthest_118 rfl (lv_at hl 0 rfl) ?_
                refine lv_iload_n hx hb dX7_farthest_119 rfl (lv_at hl 1 rfl) ?_
                refine lv_iload hx hb dX7_farthest_120 (lv_at hl 4 rfl) ?_
                refine vp_callSl (va_Run.run (va_runV (As := [.int x1, .int q4]) (rest := [.int (nI (mk S_2 x1.toNatClampNeg)), .ref o, .long (f_X7_rank (mk S_2 x1.toNatClampNeg) (f_X7_at S_2 x1 q5))]) ⟨hx, hb, hml, hown, hts⟩ (c_X7_at l dC dI o r cI cJ S_2 x1 q4 (mRow.in0 hI (mPl.row h4)) (mPl.at hI h4)) (cwV 2 hts (gV iX7_at (zin__r11 (.methodLink RX7 155 yX7_at) (List.mem_of_getElem? (i := 2) rfl))) rfl rfl rfl (by decide +kernel) ⟨Nat.le_of_ble_eq_true rfl, Nat.le_of_ble_eq_true rfl⟩) ⟨fun a U g mk q => ⟨q.1, mW_bl q.2⟩, (mW_rv hw), fun U hU hW => ⟨rfl, mW_mv hw hU hW⟩⟩ rfl rfl hl.1 rfl (lv_room (Nat.le_of_ble_eq_true rfl)) dX7_farthest_122 ⟨Nat.zero_le _, Nat.zero_le _⟩)) (fun r_122 hr_122 => ?_)
                subst hr_122
                refine vp_callSl (va_Run.run (va_runV (As := [.int (nI (mk S_2 x1.toNatClampNeg)), .long (f_X7_at S_2 x1 q4)]) (rest := [.long (f_X7_rank (mk S_2 x1.toNatClampNeg) (f_X7_at S_2 x1 q5))]) ⟨hx, hb, hml, hown, hts⟩ (c_X7_rank l o r (mk S_2 x1.toNatClampNeg) (mRow.k hI hR) (f_X7_at S_2 x1 q4)) (cwV 2 hts (gV iX7_rank (zin__r14 (.methodLink RX7 133 yX7_rank) (List.mem_of_getElem? (i := 11) rfl))) rfl rfl rfl (by decide +kernel) ⟨Nat.le_of_ble_eq_true rfl, Nat.le_of_ble_eq_true rfl⟩) ⟨fun a U g mk q => ⟨q.1, mU_bl q.2⟩, (mW_rv hw), fun U hU hW => ⟨rfl, mU_mvH hm hU hW⟩⟩ rfl rfl hl.1 rfl (lv_room (Nat.le_of_ble_eq_true rfl)) dX7_farthest_125 ⟨Nat.zero_le _, Nat.zero_le _⟩)) (fun r_125 hr_125 => ?_)
                subst hr_125
                refine W.lcmp hx hb dX7_farthest_128 ?_
                refine lv_if_ge (tgt := 136) hx hb dX7_farthest_129 (by decide) (fun c_129 => ?_) (fun c_129 => ?_)
                · have c_129 : (f_X7_rank (mk S_2 x1.toNatClampNeg) (f_X7_at S_2 x1 q4)) ≤ (f_X7_rank (mk S_2 x1.toNatClampNeg) (f_X7_at S_2 x1 q5)) := (lg_cmp_ge (f_X7_rank (mk S_2 x1.toNatClampNeg) (f_X7_at S_2 x1 q5)) (f_X7_rank (mk S_2 x1.toNatClampNeg) (f_X7_at S_2 x1 q4))).mp c_129
                  have hf : f_X7_farthest S x1 x2 = (rec_36 q4 (q5 + (1 : Int32))) := hf.trans (if_pos c_129)
                  obtain ⟨v5_4, e_v5_4⟩ : ∃ y : Int32, y = (q5 + (1 : Int32)) := ⟨_, rfl⟩
                  refine lv_iinc (v := v5_4) (lv' := [(5, .int v5_4), (0, .ref o), (1, .int x1), (2, .int x2), (3, .int (nI (mk S_2 x1.toNatClampNeg))), (4, .int q4)]) hx hb dX7_farthest_136 hl (k := 5) rfl (by rw [e_v5_4]; rfl) (by decide) rfl (fun ls hl => ?_)
                  have hf : f_X7_farthest S x1 x2 = (rec_36 q4 v5_4) := hf.trans (congrArg (fun z => (rec_36 q4 z)) e_v5_4.symm)
                  refine lv_goto (tgt := 36) hx hb dX7_farthest_139 (by decide) ?_
                  exact ih_36 (q4, v5_4) ls ⟨hf.trans (congrFun (congrFun hrec_36 _) _), (by rw [e_v5_4]; first | exact fInv.next hI hJ h5 | exact fInv.take hI hJ h5)⟩ (lv_sub hl [1, 2, 3, 4, 5, 0] rfl)
                · have c_129 : ¬ ((f_X7_rank (mk S_2 x1.toNatClampNeg) (f_X7_at S_2 x1 q4)) ≤ (f_X7_rank (mk S_2 x1.toNatClampNeg) (f_X7_at S_2 x1 q5))) := fun h9 => c_129 ((lg_cmp_ge (f_X7_rank (mk S_2 x1.toNatClampNeg) (f_X7_at S_2 x1 q5)) (f_X7_rank (mk S_2 x1.toNatClampNeg) (f_X7_at S_2 x1 q4))).mpr h9)
                  have hf : f_X7_farthest S x1 x2 = (rec_36 q5 (q5 + (1 : Int32))) := hf.trans (if_neg c_129)
                  refine lv_iload hx hb dX7_farthest_132 (lv_at hl 5 rfl) ?_
                  refine lv_istore (lv' := [(4, .int q5), (0, .ref o), (1, .int x1), (2, .int x2), (3, .int (nI (mk S_2 x1.toNatClampNeg))), (5, .int q5)]) hx hb dX7_farthest_134 hl (by decide) rfl (fun ls hl => ?_)
                  obtain ⟨v5_5, e_v5_5⟩ : ∃ y : Int32, y = (q5 + (1 : Int32)) := ⟨_, rfl⟩
                  refine lv_iinc (v := v5_5) (lv' := [(5, .int v5_5), (4, .int q5), (0, .ref o), (1, .int x1), (2, .int x2), (3, .int (nI (mk S_2 x1.toNatClampNeg)))]) hx hb dX7_farthest_136 hl (k := 5) rfl (by rw [e_v5_5]; rfl) (by decide) rfl (fun ls hl => ?_)
                  have hf : f_X7_farthest S x1 x2 = (rec_36 q5 v5_5) := hf.trans (congrArg (fun z => (rec_36 q5 z)) e_v5_5.symm)
                  refine lv_goto (tgt := 36) hx hb dX7_farthest_139 (by decide) ?_
                  exact ih_36 (q5, v5_5) ls ⟨hf.trans (congrFun (congrFun hrec_36 _) _), (by rw [e_v5_5]; first | exact fInv.next hI hJ h5 | exact fInv.take hI hJ h5)⟩ (lv_sub hl [2, 3, 4, 5, 1, 0] rfl)
              · have hf : f_X7_farthest S x1 x2 = (f_X7_farthest_4 S_2 x1 q5 q4 rec_36) := hf.trans (if_neg c_70)
                have h4 : mPl S_2 x1 q4 := fInv.best hJ c_66
                refine lv_aload_n hx hb dX7_farthest_73 rfl (lv_at hl 0 rfl) ?_
                refine lv_iload_n hx hb dX7_farthest_74 rfl (lv_at hl 3 rfl) ?_
                refine lv_aload_n hx hb dX7_farthest_75 rfl (lv_at hl 0 rfl) ?_
                refine lv_iload_n hx hb dX7_farthest_76 rfl (lv_at hl 1 rfl) ?_
                refine lv_iload hx hb dX7_farthest_77 (lv_at hl 5 rfl) ?_
                refine vp_callSl (va_Run.run (va_runV (As := [.int x1, .int q5]) (rest := [.int (nI (mk S_2 x1.toNatClampNeg)), .ref o]) ⟨hx, hb, hml, hown, hts⟩ (c_X7_at l dC dI o r cI cJ S_2 x1 q5 (mRow.in0 hI (mPl.row h5)) (mPl.at hI h5)) (cwV 2 hts (gV iX7_at (zin__r11 (.methodLink RX7 155 yX7_at) (List.mem_of_getElem? (i := 2) rfl))) rfl rfl rfl (by decide +kernel) ⟨Nat.le_of_ble_eq_true rfl, Nat.le_of_ble_eq_true rfl⟩) ⟨fun a U g mk q => ⟨q.1, mW_bl q.2⟩, (mW_rv hw), fun U hU hW => ⟨rfl, mW_mv hw hU hW⟩⟩ rfl rfl hl.1 rfl (lv_room (Nat.le_of_ble_eq_true rfl)) dX7_farthest_79 ⟨Nat.zero_le _, Nat.zero_le _⟩)) (fun r_79 hr_79 => ?_)
                subst hr_79
                refine vp_callSl (va_Run.run (va_runV (As := [.int (nI (mk S_2 x1.toNatClampNeg)), .long (f_X7_at S_2 x1 q5)]) (rest := []) ⟨hx, hb, hml, hown, hts⟩ (c_X7_rank l o r (mk S_2 x1.toNatClampNeg) (mRow.k hI hR) (f_X7_at S_2 x1 q5)) (cwV 2 hts (gV iX7_rank (zin__r14 (.methodLink RX7 133 yX7_rank) (List.mem_of_getElem? (i := 11) rfl))) rfl rfl rfl (by decide +kernel) ⟨Nat.le_of_ble_eq_true rfl, Nat.le_of_ble_eq_true rfl⟩) ⟨fun a U g mk q => ⟨q.1, mU_bl q.2⟩, (mW_rv hw), fun U hU hW => ⟨rfl, mU_mvH hm hU hW⟩⟩ rfl rfl hl.1 rfl (lv_room (Nat.le_of_ble_eq_true rfl)) dX7_farthest_82 ⟨Nat.zero_le _, Nat.zero_le _⟩)) (fun r_82 hr_82 => ?_)
                subst hr_82
                refine lv_aload_n hx hb dX7_farthest_85 rfl (lv_at hl 0 rfl) ?_
                refine lv_iload_n hx hb dX7_farthest_86 rfl (lv_at hl 3 rfl) ?_
                refine lv_aload_n hx hb dX7_farthest_87 rfl (lv_at hl 0 rfl) ?_
                refine lv_iload_n hx hb dX7_farthest_88 rfl (lv_at hl 1 rfl) ?_
                refine lv_iload hx hb dX7_farthest_89 (lv_at hl 4 rfl) ?_
                refine vp_callSl (va_Run.run (va_runV (As := [.int x1, .int q4]) (rest := [.int (nI (mk S_2 x1.toNatClampNeg)), .ref o, .long (f_X7_rank (mk S_2 x1.toNatClampNeg) (f_X7_at S_2 x1 q5))]) ⟨hx, hb, hml, hown, hts⟩ (c_X7_at l dC dI o r cI cJ S_2 x1 q4 (mRow.in0 hI (mPl.row h4)) (mPl.at hI h4)) (cwV 2 hts (gV iX7_at (zin__r11 (.methodLink RX7 155 yX7_at) (List.mem_of_getElem? (i := 2) rfl))) rfl rfl rfl (by decide +kernel) ⟨Nat.le_of_ble_eq_true rfl, Nat.le_of_ble_eq_true rfl⟩) ⟨fun a U g mk q => ⟨q.1, mW_bl q.2⟩, (mW_rv hw), fun U hU hW => ⟨rfl, mW_mv hw hU hW⟩⟩ rfl rfl hl.1 rfl (lv_room (Nat.le_of_ble_eq_true rfl)) dX7_farthest_91 ⟨Nat.zero_le _, Nat.zero_le _⟩)) (fun r_91 hr_91 => ?_)
                subst hr_91
                refine vp_callSl (va_Run.run (va_runV (As := [.int (nI (mk S_2 x1.toNatClampNeg)), .long (f_X7_at S_2 x1 q4)]) (rest := [.long (f_X7_rank (mk S_2 x1.toNatClampNeg) (f_X7_at S_2 x1 q5))]) ⟨hx, hb, hml, hown, hts⟩ (c_X7_rank l o r (mk S_2 x1.toNatClampNeg) (mRow.k hI hR) (f_X7_at S_2 x1 q4)) (cwV 2 hts (gV iX7_rank (zin__r14 (.methodLink RX7 133 yX7_rank) (List.mem_of_getElem? (i := 11) rfl))) rfl rfl rfl (by decide +kernel) ⟨Nat.le_of_ble_eq_true rfl, Nat.le_of_ble_eq_true rfl⟩) ⟨fun a U g mk q => ⟨q.1, mU_bl q.2⟩, (mW_rv hw), fun U hU hW => ⟨rfl, mU_mvH hm hU hW⟩⟩ rfl rfl hl.1 rfl (lv_room (Nat.le_of_ble_eq_true rfl)) dX7_farthest_94 ⟨Nat.zero_le _, Nat.zero_le _⟩)) (fun r_94 hr_94 => ?_)
                subst hr_94
                refine W.lcmp hx hb dX7_farthest_97 ?_
                refine lv_if_le (tgt := 136) hx hb dX7_farthest_98 (by decide) (fun c_98 => ?_) (fun c_98 => ?_)
                · have c_98 : (f_X7_rank (mk S_2 x1.toNatClampNeg) (f_X7_at S_2 x1 q5)) ≤ (f_X7_rank (mk S_2 x1.toNatClampNeg) (f_X7_at S_2 x1 q4)) := (lg_cmp_le (f_X7_rank (mk S_2 x1.toNatClampNeg) (f_X7_at S_2 x1 q5)) (f_X7_rank (mk S_2 x1.toNatClampNeg) (f_X7_at S_2 x1 q4))).mp c_98
                  have hf : f_X7_farthest S x1 x2 = (rec_36 q4 (q5 + (1 : Int32))) := hf.trans (if_pos c_98)
                  obtain ⟨v5_6, e_v5_6⟩ : ∃ y : Int32, y = (q5 + (1 : Int32)) := ⟨_, rfl⟩
                  refine lv_iinc (v := v5_6) (lv' := [(5, .int v5_6), (0, .ref o), (1, .int x1), (2, .int x2), (3, .int (nI (mk S_2 x1.toNatClampNeg))), (4, .int q4)]) hx hb dX7_farthest_136 hl (k := 5) rfl (by rw [e_v5_6]; rfl) (by decide) rfl (fun ls hl => ?_)
                  have hf : f_X7_farthest S x1 x2 = (rec_36 q4 v5_6) := hf.trans (congrArg (fun z => (rec_36 q4 z)) e_v5_6.symm)
                  refine lv_goto (tgt := 36) hx hb dX7_farthest_139 (by decide) ?_
                  exact ih_36 (q4, v5_6) ls ⟨hf.trans (congrFun (congrFun hrec_36 _) _), (by rw [e_v5_6]; first | exact fInv.next hI hJ h5 | exact fInv.take hI hJ h5)⟩ (lv_sub hl [1, 2, 3, 4, 5, 0] rfl)
                · have c_98 : ¬ ((f_X7_rank (mk S_2 x1.toNatClampNeg) (f_X7_at S_2 x1 q5)) ≤ (f_X7_rank (mk S_2 x1.toNatClampNeg) (f_X7_at S_2 x1 q4))) := fun h9 => c_98 ((lg_cmp_le (f_X7_rank (mk S_2 x1.toNatClampNeg) (f_X7_at S_2 x1 q5)) (f_X7_rank (mk S_2 x1.toNatClampNeg) (f_X7_at S_2 x1 q4))).mpr h9)
                  have hf : f_X7_farthest S x1 x2 = (rec_36 q5 (q5 + (1 : Int32))) := hf.trans (if_neg c_98)
                  refine lv_goto (tgt := 132) hx hb dX7_farthest_101 (by decide) ?_
                  refine lv_iload hx hb dX7_farthest_132 (lv_at hl 5 rfl) ?_
                  refine lv_istore (lv' := [(4, .int q5), (0, .ref o), (1, .int x1), (2, .int x2), (3, .int (nI (mk S_2 x1.toNatClampNeg))), (5, .int q5)]) hx hb dX7_farthest_134 hl (by decide) rfl (fun ls hl => ?_)
                  obtain ⟨v5_7, e_v5_7⟩ : ∃ y : Int32, y = (q5 + (1 : Int32)) := ⟨_, rfl⟩
                  refine lv_iinc (v := v5_7) (lv' := [(5, .int v5_7), (4, .int q5), (0, .ref o), (1, .int x1), (2, .int x2), (3, .int (nI (mk S_2 x1.toNatClampNeg)))]) hx hb dX7_farthest_136 hl (k := 5) rfl (by rw [e_v5_7]; rfl) (by decide) rfl (fun ls hl => ?_)
                  have hf : f_X7_farthest S x1 x2 = (rec_36 q5 v5_7) := hf.trans (congrArg (fun z => (rec_36 q5 z)) e_v5_7.symm)
                  refine lv_goto (tgt := 36) hx hb dX7_farthest_139 (by decide) ?_
                  exact ih_36 (q5, v5_7) ls ⟨hf.trans (congrFun (congrFun hrec_36 _) _), (by rw [e_v5_7]; first | exact fInv.next hI hJ h5 | exact fInv.take hI hJ h5)⟩ (lv_sub hl [2, 3, 4, 5, 1, 0] rfl)
          · have hf : f_X7_farthest S x1 x2 = (rec_36 q4 (q5 + (1 : Int32))) := hf.trans (if_neg c_58)
            refine lv_goto (tgt := 136) hx hb dX7_farthest_61 (by decide) ?_
            obtain ⟨v5_8, e_v5_8⟩ : ∃ y : Int32, y = (q5 + (1 : Int32)) := ⟨_, rfl⟩
            refine lv_iinc (v := v5_8) (lv' := [(5, .int v5_8), (0, .ref o), (1, .int x1), (2, .int x2), (3, .int (nI (mk S_2 x1.toNatClampNeg))), (4, .int q4)]) hx hb dX7_farthest_136 hl (k := 5) rfl (by rw [e_v5_8]; rfl) (by decide) rfl (fun ls hl => ?_)
            have hf : f_X7_farthest S x1 x2 = (rec_36 q4 v5_8) := hf.trans (congrArg (fun z => (rec_36 q4 z)) e_v5_8.symm)
            refine lv_goto (tgt := 36) hx hb dX7_farthest_139 (by decide) ?_
            exact ih_36 (q4, v5_8) ls ⟨hf.trans (congrFun (congrFun hrec_36 _) _), (by rw [e_v5_8]; first | exact fInv.next hI hJ h5 | exact fInv.take hI hJ h5)⟩ (lv_sub hl [1, 2, 3, 4, 5, 0] rfl)
    · have hf : f_X7_farthest S x1 x2 = (f_X7_farthest_2 S) := hf.trans (if_neg c_9)
      exact K_12 () ls hf (lv_sub hl [0] rfl)
def f_X7_least_1 (p9 : Int32 × MSt) : Int32 × MSt := (p9.1, p9.2)
def f_X7_least (S : MSt) (x1 : Int32) : Int32 × MSt := (f_X7_least_1 (f_X7_farthest S x1 (0 : Int32)))
def zX7_least : List Cond := .code yX7_least cX7_least 2 (some .int) :: zall
theorem iX7_least : MWv RX7 yX7_least (.code yX7_least cX7_least 2 (some .int)) := ⟨(zin__r23 (.instanceMethod yX7_least) (List.mem_of_getElem? (i := 22) rfl)), (zin__r23 (.selects RX7 yX7_least yX7_least) (List.mem_of_getElem? (i := 23) rfl)), (zin__r1 (.initialized RX7) (List.mem_of_getElem? (i := 5) rfl)), (zin__r24 (.code yX7_least cX7_least 2 (some .int)) (List.mem_of_getElem? (i := 0) rfl))⟩
set_option maxHeartbeats 4000000 in
set_option maxRecDepth 100000 in
theorem c_X7_least (l : Launch) (dC : Nat → ClassId) (dI : Nat → Nat → Nat) (o : Nat) (r : Nat → Nat) (cI cJ : ClassId) (sz : Nat) (S : MSt) (x1 : Int32) (hI : mInv S) : Met l yX7_least zX7_least ({ frames := 3, cells := 0, slots := 0, locals := 71 }) (va_Pc [.ref o, .int x1] (fun U => mB dC dI o r cI cJ sz S U)) (va_Qi (fun r9 S9 => (r9, S9) = f_X7_least S x1) (mE dC dI o r cI cJ (va_A (mWs o r cI cJ S) sz)) (va_A (mWs o r cI cJ S) sz)) 0 0 (va_A (mWs o r cI cJ S) sz) := by
  refine Met.ofW (cc := cX7_least) (maxL := 2) (ret := (some .int)) (by decide) rfl ?_
  intro p e s m args below meth c s₁ B hml hv
  obtain ⟨rfl, hsz, hP, hK, hD0⟩ := hv
  have hx := B.exec
  have hb := B.bytes
  have hr := B.returns
  have hts : ∀ w ∈ zall, w.before _ s = true := fun w h => atoms_spec (ws := zX7_least) B.pre w (List.mem_cons_of_mem _ h)
  have hown : s.vm.findClass RX7 = some m.cls := findClass_of_methodNamed B.named
  have hlocks := B.notSynchronized
  subst hsz
  have hD := hD0.self (sz := s.heap.size)
  generalize hAe : va_A (mWs o r cI cJ S) s.heap.size = A at hD ⊢
  have hA : ∀ q : Nat, s.heap.size ≤ q → A q := fun q h => by rw [← hAe]; exact Or.inr h
  have hS : va_S A s.heap s.heap [] := va_S.rf
  have hw : mH dC dI o r cI cJ S s s.heap := ⟨hP, hK⟩
  have hm := mA_of hts hw
  have hl := lv_entry ([.ref o, .int x1]) (n := 2) (Nat.le_of_ble_eq_true rfl)
  rw [lg_entry_eq]
  generalize (lg_sl ([.ref o, .int x1]) ++ List.replicate (2 - (lg_sl ([.ref o, .int x1])).length) Slot.unset).toArray = ls at hl ⊢
  have hl : lv_has ls 2 [(0, .ref o), (1, .int x1)] := hl
  have hf : f_X7_least S x1 = (f_X7_least_1 (f_X7_farthest S x1 (0 : Int32))) := rfl
  refine lv_aload_n hx hb dX7_least_0 rfl (lv_at hl 0 rfl) ?_
  refine lv_iload_n hx hb dX7_least_1 rfl (lv_at hl 1 rfl) ?_
  refine lv_iconst (v := 0) hx hb dX7_least_2 (by decide) ?_
  have hFc := va_free (wc := mWs o r cI cJ S) hD hS hA [0, 1, 2, 3, 4, 5, 6, 7, 8, 9, 10, 11, 12, 13, 14, 15, 16] rfl
  refine va_calli (va_runV (As := [.int x1, .int (0 : Int32)]) (rest := []) ⟨hx, hb, hml, hown, hts⟩ (c_X7_farthest l dC dI o r cI cJ s.heap.size S x1 (0 : Int32) hI) (cwV 2 hts (gV iX7_farthest (zin__r24 (.methodLink RX7 214 yX7_farthest) (List.mem_of_getElem? (i := 1) rfl))) rfl rfl rfl (by decide +kernel) ⟨Nat.le_of_ble_eq_true rfl, Nat.le_of_ble_eq_true rfl⟩) ⟨fun a U g mk q => ⟨q.1, mB_bl q.2⟩, mW_rv hw, fun U hU hW => ⟨rfl, mB_mv hw hD hU hW⟩⟩ rfl rfl hl.1 rfl (lv_room (Nat.le_of_ble_eq_true rfl)) dX7_least_3 ⟨Nat.zero_le _, Nat.zero_le _⟩) hS (fun q _ h => hFc q h) hFc (fun r_3 S_1 t H1 locs ht hvm hw1 hB hz1 hk1 hS => ?_)
  obtain ⟨hP, -, hD1⟩ := hB
  rw [ht] at hP
  have hD := hD1.weaken (fun k q _ h => hFc q.1 h)
  generalize H1 = H at hP hS ⊢
  have hw : mH dC dI o r cI cJ S_1 s H := ⟨hP, hK⟩
  have hm := mA_of hts hw
  have hf : f_X7_least S x1 = (r_3, S_1) := hf.trans (congrArg (fun z => (f_X7_least_1 z)) hw1.symm)
  exact W.iret hx hb hr (fun t ht hW => ⟨⟨_, S_1, rfl, hf.symm, by rw [ht]; exact hP, va_K.moved hW.alike hK, hD⟩, hS.F ht⟩) hS.2.2 dX7_least_6
def f_X7_greatest_1 (p9 : Int32 × MSt) : Int32 × MSt := (p9.1, p9.2)
def f_X7_greatest (S : MSt) (x1 : Int32) : Int32 × MSt := (f_X7_greatest_1 (f_X7_farthest S x1 (1 : Int32)))
def zX7_greatest : List Cond := .code yX7_greatest cX7_greatest 2 (some .int) :: zall
theorem iX7_greatest : MWv RX7 yX7_greatest (.code yX7_greatest cX7_greatest 2 (some .int)) := ⟨(zin__r24 (.instanceMethod yX7_greatest) (List.mem_of_getElem? (i := 10) rfl)), (zin__r24 (.selects RX7 yX7_greatest yX7_greatest) (List.mem_of_getElem? (i := 11) rfl)), (zin__r1 (.initialized RX7) (List.mem_of_getElem? (i := 5) rfl)), (zin__r24 (.code yX7_greatest cX7_greatest 2 (some .int)) (List.mem_of_getElem? (i := 12) rfl))⟩
set_option maxHeartbeats 4000000 in
set_option maxRecDepth 100000 in
theorem c_X7_greatest (l : Launch) (dC : Nat → ClassId) (dI : Nat → Nat → Nat) (o : Nat) (r : Nat → Nat) (cI cJ : ClassId) (sz : Nat) (S : MSt) (x1 : Int32) (hI : mInv S) : Met l yX7_greatest zX7_greatest ({ frames := 3, cells := 0, slots := 0, locals := 71 }) (va_Pc [.ref o, .int x1] (fun U => mB dC dI o r cI cJ sz S U)) (va_Qi (fun r9 S9 => (r9, S9) = f_X7_greatest S x1) (mE dC dI o r cI cJ (va_A (mWs o r cI cJ S) sz)) (va_A (mWs o r cI cJ S) sz)) 0 0 (va_A (mWs o r cI cJ S) sz) := by
  refine Met.ofW (cc := cX7_greatest) (maxL := 2) (ret := (some .int)) (by decide) rfl ?_
  intro p e s m args below meth c s₁ B hml hv
  obtain ⟨rfl, hsz, hP, hK, hD0⟩ := hv
  have hx := B.exec
  have hb := B.bytes
  have hr := B.returns
  have hts : ∀ w ∈ zall, w.before _ s = true := fun w h => atoms_spec (ws := zX7_greatest) B.pre w (List.mem_cons_of_mem _ h)
  have hown : s.vm.findClass RX7 = some m.cls := findClass_of_methodNamed B.named
  have hlocks := B.notSynchronized
  subst hsz
  have hD := hD0.self (sz := s.heap.size)
  generalize hAe : va_A (mWs o r cI cJ S) s.heap.size = A at hD ⊢
  have hA : ∀ q : Nat, s.heap.size ≤ q → A q := fun q h => by rw [← hAe]; exact Or.inr h
  have hS : va_S A s.heap s.heap [] := va_S.rf
  have hw : mH dC dI o r cI cJ S s s.heap := ⟨hP, hK⟩
  have hm := mA_of hts hw
  have hl := lv_entry ([.ref o, .int x1]) (n := 2) (Nat.le_of_ble_eq_true rfl)
  rw [lg_entry_eq]
  generalize (lg_sl ([.ref o, .int x1]) ++ List.replicate (2 - (lg_sl ([.ref o, .int x1])).length) Slot.unset).toArray = ls at hl ⊢
  have hl : lv_has ls 2 [(0, .ref o), (1, .int x1)] := hl
  have hf : f_X7_greatest S x1 = (f_X7_greatest_1 (f_X7_farthest S x1 (1 : Int32))) := rfl
  refine lv_aload_n hx hb dX7_greatest_0 rfl (lv_at hl 0 rfl) ?_
  refine lv_iload_n hx hb dX7_greatest_1 rfl (lv_at hl 1 rfl) ?_
  refine lv_iconst (v := 1) hx hb dX7_greatest_2 (by decide) ?_
  have hFc := va_free (wc := mWs o r cI cJ S) hD hS hA [0, 1, 2, 3, 4, 5, 6, 7, 8, 9, 10, 11, 12, 13, 14, 15, 16] rfl
  refine va_calli (va_runV (As := [.int x1, .int (1 : Int32)]) (rest := []) ⟨hx, hb, hml, hown, hts⟩ (c_X7_farthest l dC dI o r cI cJ s.heap.size S x1 (1 : Int32) hI) (cwV 2 hts (gV iX7_farthest (zin__r24 (.methodLink RX7 214 yX7_farthest) (List.mem_of_getElem? (i := 1) rfl))) rfl rfl rfl (by decide +kernel) ⟨Nat.le_of_ble_eq_true rfl, Nat.le_of_ble_eq_true rfl⟩) ⟨fun a U g mk q => ⟨q.1, mB_bl q.2⟩, mW_rv hw, fun U hU hW => ⟨rfl, mB_mv hw hD hU hW⟩⟩ rfl rfl hl.1 rfl (lv_room (Nat.le_of_ble_eq_true rfl)) dX7_greatest_3 ⟨Nat.zero_le _, Nat.zero_le _⟩) hS (fun q _ h => hFc q h) hFc (fun r_3 S_1 t H1 locs ht hvm hw1 hB hz1 hk1 hS => ?_)
  obtain ⟨hP, -, hD1⟩ := hB
  rw [ht] at hP
  have hD := hD1.weaken (fun k q _ h => hFc q.1 h)
  generalize H1 = H at hP hS ⊢
  have hw : mH dC dI o r cI cJ S_1 s H := ⟨hP, hK⟩
  have hm := mA_of hts hw
  have hf : f_X7_greatest S x1 = (r_3, S_1) := hf.trans (congrArg (fun z => (f_X7_greatest_1 z)) hw1.symm)
  exact W.iret hx hb hr (fun t ht hW => ⟨⟨_, S_1, rfl, hf.symm, by rw [ht]; exact hP, va_K.moved hW.alike hK, hD⟩, hS.F ht⟩) hS.2.2 dX7_greatest_6
def f_X7_find_1 (p9 : Int32 × MSt) : Int32 × MSt := (p9.1, p9.2)
def f_X7_find_2 (S : MSt) : Int32 × MSt := (f_X7_find_1 (f_X7_no S (1 : Int32)))
def f_X7_find_3 (S_2 : MSt) (x1 : Int32) (p5 : Int32) (S : MSt) (x2 : Int64) (rec_84 : Int32 → (Int32 × MSt)) : Int32 × MSt := if (f_X7_at S_2 x1 p5) = (f_X7_clean (mk S x1.toNatClampNeg) x2) then (p5, S_2) else (rec_84 (p5 + (1 : Int32)))
def f_X7_find_4 (S_2 : MSt) (x1 : Int32) (p5 : Int32) (S : MSt) (x2 : Int64) (rec_84 : Int32 → (Int32 × MSt)) : Int32 × MSt := if (f_X7_size S_2 x1) ≤ p5 then ((-1 : Int32), S_2) else (f_X7_find_3 S_2 x1 p5 S x2 rec_84)
def f_X7_find_L84 (x1 : Int32) (x2 : Int64) (S : MSt) (S_2 : MSt) : Nat → Int32 → Int32 × MSt
  | 0, _ => default
  | n + 1, p5 => (f_X7_find_4 S_2 x1 p5 S x2 (f_X7_find_L84 x1 x2 S S_2 n))
def f_X7_find_6 (S : MSt) (x1 : Int32) (q5 : Int32) (rec_29 : Int32 → (Int32 × MSt)) : Int32 × MSt := if (f_X7_order (mk S x1.toNatClampNeg) (f_X7_at S x1 (q5 - (1 : Int32))) (f_X7_at S x1 q5)) ≤ 0 then (rec_29 (q5 + (1 : Int32))) else (f_X7_find_1 (f_X7_no S (4 : Int32)))
def f_X7_find_7 (S : MSt) (x1 : Int32) (q5 : Int32) (x2 : Int64) (rec_29 : Int32 → (Int32 × MSt)) : Int32 × MSt := if (f_X7_size S x1) ≤ q5 then (f_X7_find_L84 x1 x2 S (mset_s S (0 : Int32)) 501 (0 : Int32)) else (f_X7_find_6 S x1 q5 rec_29)
def f_X7_find_L29 (x1 : Int32) (x2 : Int64) (S : MSt) : Nat → Int32 → Int32 × MSt
  | 0, _ => default
  | n + 1, q5 => (f_X7_find_7 S x1 q5 x2 (f_X7_find_L29 x1 x2 S n))
def f_X7_find_9 (x1 : Int32) (S : MSt) (x2 : Int64) : Int32 × MSt := if x1 < (nI (mn S)) then (f_X7_find_L29 x1 x2 S 500 (1 : Int32)) else (f_X7_find_2 S)
def f_X7_find_10 (x1 : Int32) (S : MSt) (x2 : Int64) : Int32 × MSt := if x1 < 0 then (f_X7_find_2 S) else (f_X7_find_9 x1 S x2)
def f_X7_find (S : MSt) (x1 : Int32) (x2 : Int64) : Int32 × MSt := (f_X7_find_10 x1 S x2)
def zX7_find : List Cond := .code yX7_find cX7_find 6 (some .int) :: zall
theorem iX7_find : MWv RX7 yX7_find (.code yX7_find cX7_find 6 (some .int)) := ⟨(zin__r26 (.instanceMethod yX7_find) (List.mem_of_getElem? (i := 6) rfl)), (zin__r26 (.selects RX7 yX7_find yX7_find) (List.mem_of_getElem? (i := 7) rfl)), (zin__r1 (.initialized RX7) (List.mem_of_getElem? (i := 5) rfl)), (zin__r26 (.code yX7_find cX7_find 6 (some .int)) (List.mem_of_getElem? (i := 8) rfl))⟩
set_option maxHeartbeats 4000000 in
set_option maxRecDepth 100000 in
theorem c_X7_find (l : Launch) (dC : Nat → ClassId) (dI : Nat → Nat → Nat) (o : Nat) (r : Nat → Nat) (cI cJ : ClassId) (sz : Nat) (S : MSt) (x1 : Int32) (x2 : Int64) (hI : mInv S) : Met l yX7_find zX7_find ({ frames := 3, cells := 0, slots := 0, locals := 71 }) (va_Pc [.ref o, .int x1, .long x2] (fun U => mB dC dI o r cI cJ sz S U)) (va_Qi (fun r9 S9 => (r9, S9) = f_X7_find S x1 x2) (mE dC dI o r cI cJ (va_A (mWs o r cI cJ S) sz)) (va_A (mWs o r cI cJ S) sz)) 0 0 (va_A (mWs o r cI cJ S) sz) := by
  refine Met.ofW (cc := cX7_find) (maxL := 6) (ret := (some .int)) (by decide) rfl ?_
  intro p e s m args below meth c s₁ B hml hv
  obtain ⟨rfl, hsz, hP, hK, hD0⟩ := hv
  have hx := B.exec
  have hb := B.bytes
  have hr := B.returns
  have hts : ∀ w ∈ zall, w.before _ s = true := fun w h => atoms_spec (ws := zX7_find) B.pre w (List.mem_cons_of_mem _ h)
  have hown : s.vm.findClass RX7 = some m.cls := findClass_of_methodNamed B.named
  have hlocks := B.notSynchronized
  subst hsz
  have hD := hD0.self (sz := s.heap.size)
  generalize hAe : va_A (mWs o r cI cJ S) s.heap.size = A at hD ⊢
  have hA : ∀ q : Nat, s.heap.size ≤ q → A q := fun q h => by rw [← hAe]; exact Or.inr h
  have hS : va_S A s.heap s.heap [] := va_S.rf
  have hw : mH dC dI o r cI cJ S s s.heap := ⟨hP, hK⟩
  have hm := mA_of hts hw
  have hl := lv_entry ([.ref o, .int x1, .long x2]) (n := 6) (Nat.le_of_ble_eq_true rfl)
  rw [lg_entry_eq]
  generalize (lg_sl ([.ref o, .int x1, .long x2]) ++ List.replicate (6 - (lg_sl ([.ref o, .int x1, .long x2])).length) Slot.unset).toArray = ls at hl ⊢
  have hl : lv_has ls 6 [(0, .ref o), (1, .int x1), (2, .long x2)] := hl
  have hf : f_X7_find S x1 x2 = (f_X7_find_10 x1 S x2) := rfl
  refine lv_iload_n hx hb dX7_find_0 rfl (lv_at hl 1 rfl) ?_
  refine W_cut (α := Unit) (pcJ := 12) (nL := 6) (fun v => f_X7_find S x1 x2 = (f_X7_find_2 S)) (fun v => []) (fun v => [(0, .ref o)]) (fun v ls hf hl => ?_) (fun K_12 => ?_)
  · have hf : f_X7_find S x1 x2 = (f_X7_find_1 (f_X7_no S (1 : Int32))) := hf
    have hl : lv_has ls 6 [(0, .ref o)] := hl
    refine lv_aload_n hx hb dX7_find_12 rfl (lv_at hl 0 rfl) ?_
    refine lv_iconst (v := 1) hx hb dX7_find_13 (by decide) ?_
    have hFc := va_free (wc := mWs o r cI cJ S) hD hS hA [0, 1, 2, 3, 4, 5, 6, 7, 8, 9, 10, 11, 12, 13, 14, 15, 16] rfl
    refine va_calli (va_runV (As := [.int (1 : Int32)]) (rest := []) ⟨hx, hb, hml, hown, hts⟩ (c_X7_no l dC dI o r cI cJ s.heap.size S (1 : Int32)) (cwV 1 hts (gV iX7_no (zin__r4 (.methodLink RX7 139 yX7_no) (List.mem_of_getElem? (i := 14) rfl))) rfl rfl rfl (by decide +kernel) ⟨Nat.le_of_ble_eq_true rfl, Nat.le_of_ble_eq_true rfl⟩) ⟨fun a U g mk q => ⟨q.1, mB_bl q.2⟩, mW_rv hw, fun U hU hW => ⟨rfl, mB_mv hw hD hU hW⟩⟩ rfl rfl hl.1 rfl (lv_room (Nat.le_of_ble_eq_true rfl)) dX7_find_14 ⟨Nat.zero_le _, Nat.zero_le _⟩) hS (fun q _ h => hFc q h) hFc (fun r_14 S_1 t H1 locs ht hvm hw1 hB hz1 hk1 hS => ?_)
    obtain ⟨hP, -, hD1⟩ := hB
    rw [ht] at hP
    have hD := hD1.weaken (fun k q _ h => hFc q.1 h)
    generalize H1 = H at hP hS ⊢
    have hw : mH dC dI o r cI cJ S_1 s H := ⟨hP, hK⟩
    have hm := mA_of hts hw
    have hf : f_X7_find S x1 x2 = (r_14, S_1) := hf.trans (congrArg (fun z => (f_X7_find_1 z)) hw1.symm)
    exact W.iret hx hb hr (fun t ht hW => ⟨⟨_, S_1, rfl, hf.symm, by rw [ht]; exact hP, va_K.moved hW.alike hK, hD⟩, hS.F ht⟩) hS.2.2 dX7_find_17
  refine lv_if_lt (tgt := 12) hx hb dX7_find_1 (by decide) (fun c_1 => ?_) (fun c_1 => ?_)
  · have hf : f_X7_find S x1 x2 = (f_X7_find_2 S) := hf.trans (if_pos c_1)
    exact K_12 () ls hf (lv_sub hl [0] rfl)
  · have hf : f_X7_find S x1 x2 = (f_X7_find_9 x1 S x2) := hf.trans (if_neg c_1)
    refine lv_iload_n hx hb dX7_find_4 rfl (lv_at hl 1 rfl) ?_
    refine lv_aload_n hx hb dX7_find_5 rfl (lv_at hl 0 rfl) ?_
    refine va_get (D := (dC, dI)) (ci := 5) (v := .int (nI (mn S))) (C := RX7) (T := TX7) (N := 18) hx hb hts zin_X7 hown hK hP 0 rfl rfl 16 (by decide) (hts _ (zin__r4 (.fieldLink RX7 79 "ReckonBenchModel" "rows" "I") (List.mem_of_getElem? (i := 12) rfl))) (fun _ h9 => h9) rfl dX7_find_6 ?_
    refine lv_icmp_lt (tgt := 18) hx hb dX7_find_9 (by decide) (fun c_9 => ?_) (fun c_9 => ?_)
    · have hf : f_X7_find S x1 x2 = (f_X7_find_L29 x1 x2 S 500 (1 : Int32)) := hf.trans (if_pos c_9)
      have hR : mRow S x1 := row_of hI c_1 c_9
      have hk9 : mk S x1.toNatClampNeg < 2 := mRow.k hI hR
      refine lv_aload_n hx hb dX7_find_18 rfl (lv_at hl 0 rfl) ?_
      refine va_get (D := (dC, dI)) (ci := 5) (v := .ref (r 8)) (C := RX7) (T := TX7) (N := 18) hx hb hts zin_X7 hown hK hP 0 rfl rfl 8 (by decide) (hts _ (zin__r3 (.fieldLink RX7 51 "ReckonBenchModel" "kinds" "[I") (List.mem_of_getElem? (i := 2) rfl))) (fun _ h9 => h9) rfl dX7_find_19 ?_
      refine lv_iload_n hx hb dX7_find_22 rfl (lv_at hl 1 rfl) ?_
      refine va_iald (f := fun j => nI (mk S j)) hx hb hK hP 9 0 rfl rfl (mRow.in2 hI hR) dX7_find_23 ?_
      refine lv_istore (lv' := [(4, .int (nI (mk S x1.toNatClampNeg))), (0, .ref o), (1, .int x1), (2, .long x2)]) hx hb dX7_find_24 hl (by decide) rfl (fun ls hl => ?_)
      refine lv_iconst (v := 1) hx hb dX7_find_26 (by decide) ?_
      refine lv_istore (lv' := [(5, .int (1 : Int32)), (4, .int (nI (mk S x1.toNatClampNeg))), (0, .ref o), (1, .int x1), (2, .long x2)]) hx hb dX7_find_27 hl (by decide) rfl (fun ls hl => ?_)
      refine W_loop (α := Int32) (pcJ := 29) (nL := 6) (fun n v => f_X7_find S x1 x2 = f_X7_find_L29 x1 x2 S n v ∧ (gInv 1 v n)) (fun v => []) (fun v => [(0, .ref o), (1, .int x1), (2, .long x2), (4, .int (nI (mk S x1.toNatClampNeg))), (5, .int v)]) (fun q5 hC => ?_) (fun n_29 ih_29 q5 ls hC hl => ?_) 500 (1 : Int32) ls ⟨hf, gInv.init1⟩ (lv_sub hl [2, 3, 4, 1, 0] rfl)
      · skip
        have hJ : (gInv 1 q5 (0 : Nat)) := hC.2
        exact gInv.zero hJ
      · skip
        obtain ⟨hf, hJ⟩ : (f_X7_find S x1 x2 = f_X7_find_L29 x1 x2 S (n_29 + 1) q5) ∧ (gInv 1 q5 (Nat.succ n_29)) := hC
        obtain ⟨rec_29, hrec_29⟩ : ∃ z, z = f_X7_find_L29 x1 x2 S n_29 := ⟨_, rfl⟩
        have hf : f_X7_find S x1 x2 = (f_X7_find_7 S x1 q5 x2 rec_29) := by rw [hrec_29]; exact hf
        have hl : lv_has ls 6 [(0, .ref o), (1, .int x1), (2, .long x2), (4, .int (nI (mk S x1.toNatClampNeg))), (5, .int q5)] := hl
        refine lv_iload hx hb dX7_find_29 (lv_at hl 4 rfl) ?_
        refine lv_aload_n hx hb dX7_find_31 rfl (lv_at hl 0 rfl) ?_
        refine lv_iload_n hx hb dX7_find_32 rfl (lv_at hl 1 rfl) ?_
        refine vp_callSi (va_Run.run (va_runV (As := [.int x1]) (rest := [.int q5]) ⟨hx, hb, hml, hown, hts⟩ (c_X7_size l dC dI o r cI cJ S x1 (mRow.in1 hI hR) (mRow.in0 hI hR)) (cwV 1 hts (gV iX7_size (zin__r6 (.methodLink RX7 82 yX7_size) (List.mem_of_getElem? (i := 19) rfl))) rfl rfl rfl (by decide +kernel) ⟨Nat.le_of_ble_eq_true rfl, Nat.le_of_ble_eq_true rfl⟩) ⟨fun a U g mk q => ⟨q.1, mW_bl q.2⟩, (mW_rv hw), fun U hU hW => ⟨rfl, mW_mv hw hU hW⟩⟩ rfl rfl hl.1 rfl (lv_room (Nat.le_of_ble_eq_true rfl)) dX7_find_33 ⟨Nat.zero_le _, Nat.zero_le _⟩)) (fun r_33 hr_33 => ?_)
        subst hr_33
        refine lv_icmp_ge (tgt := 76) hx hb dX7_find_36 (by decide) (fun c_36 => ?_) (fun c_36 => ?_)
        · have hf : f_X7_find S x1 x2 = (f_X7_find_L84 x1 x2 S (mset_s S (0 : Int32)) 501 (0 : Int32)) := hf.trans (if_pos c_36)
          refine lv_aload_n hx hb dX7_find_76 rfl (lv_at hl 0 rfl) ?_
          refine lv_iconst (v := 0) hx hb dX7_find_77 (by decide) ?_
          refine va_put (D := (dC, dI)) (ci := 5) (v := .int (0 : Int32)) (ty := .int) (C := RX7) (T := TX7) (N := 18) hx hb hts zin_X7 tyX7 tyX7_ok nmX7 hown hK hP hD hS 0 rfl rfl 17 (by decide) (hts _ (zin__r4 (.fieldLink RX7 75 "ReckonBenchModel" "status" "I") (List.mem_of_getElem? (i := 13) rfl))) (fun _ h9 => h9) rfl (by decide +kernel) rfl rfl (Nat.le_of_ble_eq_true rfl) dX7_find_78 (fun H locs hP hD hS => ?_)
          obtain ⟨S_2, e_S_2⟩ : ∃ z : MSt, z = (mset_s S (0 : Int32)) := ⟨_, rfl⟩
          have hP : va_P (dC, dI) vwCl (mWs o r cI cJ S_2) H := by rw [e_S_2]; exact hP
          have hD : va_D A (mWs o r cI cJ S_2) := by rw [e_S_2]; exact hD
          have hw : mH dC dI o r cI cJ S_2 s H := ⟨hP, hK⟩
          have hm := mA_of hts hw
          have hI : mInv S_2 := by rw [e_S_2]; exact hI
          have hR : mRow S_2 x1 := by rw [e_S_2]; exact hR
          have hf : f_X7_find S x1 x2 = (f_X7_find_L84 x1 x2 S S_2 501 (0 : Int32)) := hf.trans (congrArg (fun z => (f_X7_find_L84 x1 x2 S z 501 (0 : Int32))) e_S_2.symm)
          refine lv_iconst (v := 0) hx hb dX7_find_81 (by decide) ?_
          refine lv_istore (lv' := [(5, .int (0 : Int32)), (0, .ref o), (1, .int x1), (2, .long x2), (4, .int (nI (mk S x1.toNatClampNeg)))]) hx hb dX7_find_82 hl (by decide) rfl (fun ls hl => ?_)
          refine W_loop (α := Int32) (pcJ := 84) (nL := 6) (fun n v => f_X7_find S x1 x2 = f_X7_find_L84 x1 x2 S S_2 n v ∧ (gInv 0 v n)) (fun v => []) (fun v => [(0, .ref o), (1, .int x1), (2, .long x2), (4, .int (nI (mk S x1.toNatClampNeg))), (5, .int v)]) (fun p5 hC => ?_) (fun n_84 ih_84 p5 ls hC hl => ?_) 501 (0 : Int32) ls ⟨hf, gInv.init0⟩ (lv_sub hl [1, 2, 3, 4, 0] rfl)
          · skip
            have hJ : (gInv 0 p5 (0 : Nat)) := hC.2
            exact gInv.zero hJ
          · skip
            obtain ⟨hf, hJ⟩ : (f_X7_find S x1 x2 = f_X7_find_L84 x1 x2 S S_2 (n_84 + 1) p5) ∧ (gInv 0 p5 (Nat.succ n_84)) := hC
            obtain ⟨rec_84, hrec_84⟩ : ∃ z, z = f_X7_find_L84 x1 x2 S S_2 n_84 := ⟨_, rfl⟩
            have hf : f_X7_find S x1 x2 = (f_X7_find_4 S_2 x1 p5 S x2 rec_84) := by rw [hrec_84]; exact hf
            have hl : lv_has ls 6 [(0, .ref o), (1, .int x1), (2, .long x2), (4, .int (nI (mk S x1.toNatClampNeg))), (5, .int p5)] := hl
            refine lv_iload hx hb dX7_find_84 (lv_at hl 4 rfl) ?_
            refine lv_aload_n hx hb dX7_find_86 rfl (lv_at hl 0 rfl) ?_
            refine lv_iload_n hx hb dX7_find_87 rfl (lv_at hl 1 rfl) ?_
            refine vp_callSi (va_Run.run (va_runV (As := [.int x1]) (rest := [.int p5]) ⟨hx, hb, hml, hown, hts⟩ (c_X7_size l dC dI o r cI cJ S_2 x1 (mRow.in1 hI hR) (mRow.in0 hI hR)) (cwV 1 hts (gV iX7_size (zin__r6 (.methodLink RX7 82 yX7_size) (List.mem_of_getElem? (i := 19) rfl))) rfl rfl rfl (by decide +kernel) ⟨Nat.le_of_ble_eq_true rfl, Nat.le_of_ble_eq_true rfl⟩) ⟨fun a U g mk q => ⟨q.1, mW_bl q.2⟩, (mW_rv hw), fun U hU hW => ⟨rfl, mW_mv hw hU hW⟩⟩ rfl rfl hl.1 rfl (lv_room (Nat.le_of_ble_eq_true rfl)) dX7_find_88 ⟨Nat.zero_le _, Nat.zero_le _⟩)) (fun r_88 hr_88 => ?_)
            subst hr_88
            refine lv_icmp_ge (tgt := 121) hx hb dX7_find_91 (by decide) (fun c_91 => ?_) (fun c_91 => ?_)
            · have hf : f_X7_find S x1 x2 = ((-1 : Int32), S_2) := hf.trans (if_pos c_91)
              refine lv_iconst (v := -1) hx hb dX7_find_121 (by decide) ?_
              exact W.iret hx hb hr (fun t ht hW => ⟨⟨_, S_2, rfl, hf.symm, by rw [ht]; exact hP, va_K.moved hW.alike hK, hD⟩, hS.F ht⟩) hS.2.2 dX7_find_122
            · have hf : f_X7_find S x1 x2 = (f_X7_find_3 S_2 x1 p5 S x2 rec_84) := hf.trans (if_neg c_91)
              have h5 : mPl S_2 x1 p5 := gInv.pl hI hR hJ c_91
              refine lv_aload_n hx hb dX7_find_94 rfl (lv_at hl 0 rfl) ?_
              refine lv_iload_n hx hb dX7_find_95 rfl (lv_at hl 1 rfl) ?_
              refine lv_iload hx hb dX7_find_96 (lv_at hl 4 rfl) ?_
              refine vp_callSl (va_Run.run (va_runV (As := [.int x1, .int p5]) (rest := []) ⟨hx, hb, hml, hown, hts⟩ (c_X7_at l dC dI o r cI cJ S_2 x1 p5 (mRow.in0 hI (mPl.row h5)) (mPl.at hI h5)) (cwV 2 hts (gV iX7_at (zin__r11 (.methodLink RX7 155 yX7_at) (List.mem_of_getElem? (i := 2) rfl))) rfl rfl rfl (by decide +kernel) ⟨Nat.le_of_ble_eq_true rfl, Nat.le_of_ble_eq_true rfl⟩) ⟨fun a U g mk q => ⟨q.1, mW_bl q.2⟩, (mW_rv hw), fun U hU hW => ⟨rfl, mW_mv hw hU hW⟩⟩ rfl rfl hl.1 rfl (lv_room (Nat.le_of_ble_eq_true rfl)) dX7_find_98 ⟨Nat.zero_le _, Nat.zero_le _⟩)) (fun r_98 hr_98 => ?_)
              subst hr_98
              refine lv_aload_n hx hb dX7_find_101 rfl (lv_at hl 0 rfl) ?_
              refine lv_iload hx hb dX7_find_102 (lv_at hl 3 rfl) ?_
              refine lv_lload_n hx hb dX7_find_104 rfl (lv_at hl 2 rfl) ?_
              refine vp_callSl (va_Run.run (va_runV (As := [.int (nI (mk S x1.toNatClampNeg)), .long x2]) (rest := [.long (f_X7_at S_2 x1 p5)]) ⟨hx, hb, hml, hown, hts⟩ (c_X7_clean l o r (mk S x1.toNatClampNeg) hk9 x2) (cwV 2 hts (gV iX7_clean (zin__r6 (.methodLink RX7 146 yX7_clean) (List.mem_of_getElem? (i := 23) rfl))) rfl rfl rfl (by decide +kernel) ⟨Nat.le_of_ble_eq_true rfl, Nat.le_of_ble_eq_true rfl⟩) ⟨fun a U g mk q => ⟨q.1, mU_bl q.2⟩, (mW_rv hw), fun U hU hW => ⟨rfl, mU_mvH hm hU hW⟩⟩ rfl rfl hl.1 rfl (lv_room (Nat.le_of_ble_eq_true rfl)) dX7_find_105 ⟨Nat.zero_le _, Nat.zero_le _⟩)) (fun r_105 hr_105 => ?_)
              subst hr_105
              refine W.lcmp hx hb dX7_find_108 ?_
              refine lv_if_ne (tgt := 115) hx hb dX7_find_109 (by decide) (fun c_109 => ?_) (fun c_109 => ?_)
              · have c_109 : ¬ ((f_X7_at S_2 x1 p5) = (f_X7_clean (mk S x1.toNatClampNeg) x2)) := fun h9 => c_109 ((lg_cmp_eq (f_X7_at S_2 x1 p5) (f_X7_clean (mk S x1.toNatClampNeg) x2)).mpr h9)
                have hf : f_X7_find S x1 x2 = (rec_84 (p5 + (1 : Int32))) := hf.trans (if_neg c_109)
                obtain ⟨v5_3, e_v5_3⟩ : ∃ y : Int32, y = (p5 + (1 : Int32)) := ⟨_, rfl⟩
                refine lv_iinc (v := v5_3) (lv' := [(5, .int v5_3), (0, .ref o), (1, .int x1), (2, .long x2), (4, .int (nI (mk S x1.toNatClampNeg)))]) hx hb dX7_find_115 hl (k := 4) rfl (by rw [e_v5_3]; rfl) (by decide) rfl (fun ls hl => ?_)
                have hf : f_X7_find S x1 x2 = (rec_84 v5_3) := hf.trans (congrArg (fun z => (rec_84 z)) e_v5_3.symm)
                refine lv_goto (tgt := 84) hx hb dX7_find_118 (by decide) ?_
                exact ih_84 v5_3 ls ⟨hf.trans (congrFun hrec_84 _), (by rw [e_v5_3]; exact gInv.next hI hJ h5)⟩ (lv_sub hl [1, 2, 3, 4, 0] rfl)
              · have c_109 : (f_X7_at S_2 x1 p5) = (f_X7_clean (mk S x1.toNatClampNeg) x2) := (lg_cmp_eq (f_X7_at S_2 x1 p5) (f_X7_clean (mk S x1.toNatClampNeg) x2)).mp c_109
                have hf : f_X7_find S x1 x2 = (p5, S_2) := hf.trans (if_pos c_109)
                refine lv_iload hx hb dX7_find_112 (lv_at hl 4 rfl) ?_
                exact W.iret hx hb hr (fun t ht hW => ⟨⟨_, S_2, rfl, hf.symm, by rw [ht]; exact hP, va_K.moved hW.alike hK, hD⟩, hS.F ht⟩) hS.2.2 dX7_find_114
        · have hf : f_X7_find S x1 x2 = (f_X7_find_6 S x1 q5 rec_29) := hf.trans (if_neg c_36)
          have h5 : mPl S x1 q5 := gInv.pl hI hR hJ c_36
          have h4 : mPl S x1 (q5 - (1 : Int32)) := gInv.prev hI hR hJ c_36
          refine lv_aload_n hx hb dX7_find_39 rfl (lv_at hl 0 rfl) ?_
          refine lv_iload hx hb dX7_find_40 (lv_at hl 3 rfl) ?_
          refine lv_aload_n hx hb dX7_find_42 rfl (lv_at hl 0 rfl) ?_
          refine lv_iload_n hx hb dX7_find_43 rfl (lv_at hl 1 rfl) ?_
          refine lv_iload hx hb dX7_find_44 (lv_at hl 4 rfl) ?_
          refine lv_iconst (v := 1) hx hb dX7_find_46 (by decide) ?_
          refine lv_isub hx hb dX7_find_47 ?_
          refine vp_callSl (va_Run.run (va_runV (As := [.int x1, .int (q5 - (1 : Int32))]) (rest := [.int (nI (mk S x1.toNatClampNeg)), .ref o]) ⟨hx, hb, hml, hown, hts⟩ (c_X7_at l dC dI o r cI cJ S x1 (q5 - (1 : Int32)) (mRow.in0 hI (mPl.row h4)) (mPl.at hI h4)) (cwV 2 hts (gV iX7_at (zin__r11 (.methodLink RX7 155 yX7_at) (List.mem_of_getElem? (i := 2) rfl))) rfl rfl rfl (by decide +kernel) ⟨Nat.le_of_ble_eq_true rfl, Nat.le_of_ble_eq_true rfl⟩) ⟨fun a U g mk q => ⟨q.1, mW_bl q.2⟩, (mW_rv hw), fun U hU hW => ⟨rfl, mW_mv hw hU hW⟩⟩ rfl rfl hl.1 rfl (lv_room (Nat.le_of_ble_eq_true rfl)) dX7_find_48 ⟨Nat.zero_le _, Nat.zero_le _⟩)) (fun r_48 hr_48 => ?_)
          subst hr_48
          refine lv_aload_n hx hb dX7_find_51 rfl (lv_at hl 0 rfl) ?_
          refine lv_iload_n hx hb dX7_find_52 rfl (lv_at hl 1 rfl) ?_
          refine lv_iload hx hb dX7_find_53 (lv_at hl 4 rfl) ?_
          refine vp_callSl (va_Run.run (va_runV (As := [.int x1, .int q5]) (rest := [.long (f_X7_at S x1 (q5 - (1 : Int32))), .int (nI (mk S x1.toNatClampNeg)), .ref o]) ⟨hx, hb, hml, hown, hts⟩ (c_X7_at l dC dI o r cI cJ S x1 q5 (mRow.in0 hI (mPl.row h5)) (mPl.at hI h5)) (cwV 2 hts (gV iX7_at (zin__r11 (.methodLink RX7 155 yX7_at) (List.mem_of_getElem? (i := 2) rfl))) rfl rfl rfl (by decide +kernel) ⟨Nat.le_of_ble_eq_true rfl, Nat.le_of_ble_eq_true rfl⟩) ⟨fun a U g mk q => ⟨q.1, mW_bl q.2⟩, (mW_rv hw), fun U hU hW => ⟨rfl, mW_mv hw hU hW⟩⟩ rfl rfl hl.1 rfl (lv_room (Nat.le_of_ble_eq_true rfl)) dX7_find_55 ⟨Nat.zero_le _, Nat.zero_le _⟩)) (fun r_55 hr_55 => ?_)
          subst hr_55
          refine vp_callSi (va_Run.run (va_runV (As := [.int (nI (mk S x1.toNatClampNeg)), .long (f_X7_at S x1 (q5 - (1 : Int32))), .long (f_X7_at S x1 q5)]) (rest := []) ⟨hx, hb, hml, hown, hts⟩ (c_X7_order l o r (mk S x1.toNatClampNeg) hk9 (f_X7_at S x1 (q5 - (1 : Int32))) (f_X7_at S x1 q5)) (cwV 3 hts (gV iX7_order (zin__r15 (.methodLink RX7 171 yX7_order) (List.mem_of_getElem? (i := 15) rfl))) rfl rfl rfl (by decide +kernel) ⟨Nat.le_of_ble_eq_true rfl, Nat.le_of_ble_eq_true rfl⟩) ⟨fun a U g mk q => ⟨q.1, mU_bl q.2⟩, (mW_rv hw), fun U hU hW => ⟨rfl, mU_mvH hm hU hW⟩⟩ rfl rfl hl.1 rfl (lv_room (Nat.le_of_ble_eq_true rfl)) dX7_find_58 ⟨Nat.zero_le _, Nat.zero_le _⟩)) (fun r_58 hr_58 => ?_)
          subst hr_58
          refine lv_if_le (tgt := 70) hx hb dX7_find_61 (by decide) (fun c_61 => ?_) (fun c_61 => ?_)
          · have hf : f_X7_find S x1 x2 = (rec_29 (q5 + (1 : Int32))) := hf.trans (if_pos c_61)
            obtain ⟨v5_4, e_v5_4⟩ : ∃ y : Int32, y = (q5 + (1 : Int32)) := ⟨_, rfl⟩
            refine lv_iinc (v := v5_4) (lv' := [(5, .int v5_4), (0, .ref o), (1, .int x1), (2, .long x2), (4, .int (nI (mk S x1.toNatClampNeg)))]) hx hb dX7_find_70 hl (k := 4) rfl (by rw [e_v5_4]; rfl) (by decide) rfl (fun ls hl => ?_)
            have hf : f_X7_find S x1 x2 = (rec_29 v5_4) := hf.trans (congrArg (fun z => (rec_29 z)) e_v5_4.symm)
            refine lv_goto (tgt := 29) hx hb dX7_find_73 (by decide) ?_
            exact ih_29 v5_4 ls ⟨hf.trans (congrFun hrec_29 _), (by rw [e_v5_4]; exact gInv.next hI hJ h5)⟩ (lv_sub hl [1, 2, 3, 4, 0] rfl)
          · have hf : f_X7_find S x1 x2 = (f_X7_find_1 (f_X7_no S (4 : Int32))) := hf.trans (if_neg c_61)
            refine lv_aload_n hx hb dX7_find_64 rfl (lv_at hl 0 rfl) ?_
            refine lv_iconst (v := 4) hx hb dX7_find_65 (by decide) ?_
            have hFc := va_free (wc := mWs o r cI cJ S) hD hS hA [0, 1, 2, 3, 4, 5, 6, 7, 8, 9, 10, 11, 12, 13, 14, 15, 16] rfl
            refine va_calli (va_runV (As := [.int (4 : Int32)]) (rest := []) ⟨hx, hb, hml, hown, hts⟩ (c_X7_no l dC dI o r cI cJ s.heap.size S (4 : Int32)) (cwV 1 hts (gV iX7_no (zin__r4 (.methodLink RX7 139 yX7_no) (List.mem_of_getElem? (i := 14) rfl))) rfl rfl rfl (by decide +kernel) ⟨Nat.le_of_ble_eq_true rfl, Nat.le_of_ble_eq_true rfl⟩) ⟨fun a U g mk q => ⟨q.1, mB_bl q.2⟩, mW_rv hw, fun U hU hW => ⟨rfl, mB_mv hw hD hU hW⟩⟩ rfl rfl hl.1 rfl (lv_room (Nat.le_of_ble_eq_true rfl)) dX7_find_66 ⟨Nat.zero_le _, Nat.zero_le _⟩) hS (fun q _ h => hFc q h) hFc (fun r_66 S_5 t H1 locs ht hvm hw1 hB hz1 hk1 hS => ?_)
            obtain ⟨hP, -, hD1⟩ := hB
            rw [ht] at hP
            have hD := hD1.weaken (fun k q _ h => hFc q.1 h)
            generalize H1 = H at hP hS ⊢
            have hw : mH dC dI o r cI cJ S_5 s H := ⟨hP, hK⟩
            have hm := mA_of hts hw
            have hf : f_X7_find S x1 x2 = (r_66, S_5) := hf.trans (congrArg (fun z => (f_X7_find_1 z)) hw1.symm)
            exact W.iret hx hb hr (fun t ht hW => ⟨⟨_, S_5, rfl, hf.symm, by rw [ht]; exact hP, va_K.moved hW.alike hK, hD⟩, hS.F ht⟩) hS.2.2 dX7_find_69
    · have hf : f_X7_find S x1 x2 = (f_X7_find_2 S) := hf.trans (if_neg c_9)
      exact K_12 () ls hf (lv_sub hl [0] rfl)
