def f_X6_sum_1 (p9 : Int64 × CSt) : Int64 × CSt := (p9.1, p9.2)
def f_X6_interval_1 (p9 : Int32 × CSt) : Int32 × CSt := (p9.1, p9.2)
def f_X6_interval_2 (S : CSt) : Int32 × CSt := (f_X6_interval_1 (f_X6_refuse S (2 : Int32)))
def f_X6_interval_3 (S : CSt) (x1 : Int32) (p9 : Nat → Int64) : Int32 × CSt := (f_X6_interval_1 (f_X6_answer (cset_bt S x1.toNatClampNeg p9) (1 : Int32)))
def f_X6_interval_4 (S : CSt) (x1 : Int32) (x2 : Int32) (u_104 : Int64 × Int64) : Int32 × CSt := (f_X6_interval_3 S x1 (f_X3_putPair (cbt S x1.toNatClampNeg) (ckd S x1.toNatClampNeg) x2 (ckd S x1.toNatClampNeg) u_104.1 u_104.2))
def f_X6_interval_5 (S : CSt) (x1 : Int32) (x2 : Int32) (u_56 : Int64 × Int64) : Int32 × CSt := (f_X6_interval_4 S x1 x2 (f_X0_everything (ckd S x1.toNatClampNeg) u_56.1 u_56.2))
def f_X6_interval_6 (S : CSt) (x1 : Int32) (p9 : Nat → Int64) : Int32 × CSt := (f_X6_interval_1 (f_X6_answer (cset_bt S x1.toNatClampNeg p9) (0 : Int32)))
def f_X6_interval_7 (S : CSt) (x1 : Int32) (x2 : Int32) (u_122 : Int64 × Int64) : Int32 × CSt := (f_X6_interval_6 S x1 (f_X3_putPair (cbt S x1.toNatClampNeg) (ckd S x1.toNatClampNeg) x2 (ckd S x1.toNatClampNeg) u_122.1 u_122.2))
def f_X6_interval_8 (S : CSt) (x1 : Int32) (p9 : Nat → Int64) : Int32 × CSt := (f_X6_interval_1 (f_X6_answer (cset_bt S x1.toNatClampNeg p9) (2 : Int32)))
def f_X6_interval_9 (S : CSt) (x1 : Int32) (x2 : Int32) (u_146 : Int64 × Int64) : Int32 × CSt := (f_X6_interval_8 S x1 (f_X3_putPair (cbt S x1.toNatClampNeg) (ckd S x1.toNatClampNeg) x2 (ckd S x1.toNatClampNeg) u_146.1 u_146.2))
def f_X6_interval_10 (S : CSt) (x1 : Int32) (u_122 : Int64 × Int64) (x2 : Int32) (u_56 : Int64 × Int64) : Int32 × CSt := if (f_X0_stands (ckd S x1.toNatClampNeg) u_122.1 u_122.2) = 0 then (f_X6_interval_9 S x1 x2 (f_X0_nothing (ckd S x1.toNatClampNeg) u_56.1 u_56.2)) else (f_X6_interval_7 S x1 x2 u_122)
def f_X6_interval_11 (x4 : Int32) (S : CSt) (x1 : Int32) (u_122 : Int64 × Int64) (x2 : Int32) (u_56 : Int64 × Int64) : Int32 × CSt := if x4 = (5 : Int32) then (f_X6_interval_10 S x1 u_122 x2 u_56) else (f_X6_interval_7 S x1 x2 u_122)
def f_X6_interval_12 (x4 : Int32) (S : CSt) (x1 : Int32) (u_56 : Int64 × Int64) (u_64 : Int64 × Int64) (x2 : Int32) : Int32 × CSt := (f_X6_interval_11 x4 S x1 (f_X0_acted (ckd S x1.toNatClampNeg) u_56.1 u_56.2 x4 (ckd S x1.toNatClampNeg) u_64.1 u_64.2) x2 u_56)
def f_X6_interval_13 (S : CSt) (x1 : Int32) (u_64 : Int64 × Int64) (x4 : Int32) (u_56 : Int64 × Int64) (x2 : Int32) : Int32 × CSt := if (f_X0_hasZero (ckd S x1.toNatClampNeg) u_64.1 u_64.2) = 0 then (f_X6_interval_12 x4 S x1 u_56 u_64 x2) else (f_X6_interval_5 S x1 x2 u_56)
def f_X6_interval_14 (x4 : Int32) (S : CSt) (x1 : Int32) (u_64 : Int64 × Int64) (u_56 : Int64 × Int64) (x2 : Int32) : Int32 × CSt := if x4 = (3 : Int32) then (f_X6_interval_13 S x1 u_64 x4 u_56 x2) else (f_X6_interval_12 x4 S x1 u_56 u_64 x2)
def f_X6_interval_15 (S : CSt) (x1 : Int32) (u_64 : Int64 × Int64) (x2 : Int32) (u_56 : Int64 × Int64) (x4 : Int32) : Int32 × CSt := if (f_X0_stands (ckd S x1.toNatClampNeg) u_64.1 u_64.2) = 0 then (f_X6_interval_5 S x1 x2 u_56) else (f_X6_interval_14 x4 S x1 u_64 u_56 x2)
def f_X6_interval_16 (S : CSt) (x1 : Int32) (u_56 : Int64 × Int64) (x2 : Int32) (u_64 : Int64 × Int64) (x4 : Int32) : Int32 × CSt := if (f_X0_stands (ckd S x1.toNatClampNeg) u_56.1 u_56.2) = 0 then (f_X6_interval_5 S x1 x2 u_56) else (f_X6_interval_15 S x1 u_64 x2 u_56 x4)
def f_X6_interval_17 (x4 : Int32) (S : CSt) (x1 : Int32) (x2 : Int32) (x3 : Int32) : Int32 × CSt := if x4 ≤ (5 : Int32) then (f_X6_interval_16 S x1 (f_X3_pair (ckd S x1.toNatClampNeg) (cln S x1.toNatClampNeg) (cbt S x1.toNatClampNeg) x2) x2 (f_X3_pair (ckd S x1.toNatClampNeg) (cln S x1.toNatClampNeg) (cbt S x1.toNatClampNeg) x3) x4) else (f_X6_interval_2 S)
def f_X6_interval_18 (x4 : Int32) (S : CSt) (x1 : Int32) (x2 : Int32) (x3 : Int32) : Int32 × CSt := if x4 < 0 then (f_X6_interval_2 S) else (f_X6_interval_17 x4 S x1 x2 x3)
def f_X6_interval_19 (S : CSt) (x1 : Int32) (x3 : Int32) (x4 : Int32) (x2 : Int32) : Int32 × CSt := if (f_X3_hasPair (ckd S x1.toNatClampNeg) (cln S x1.toNatClampNeg) (cbt S x1.toNatClampNeg) x3) = 0 then (f_X6_interval_2 S) else (f_X6_interval_18 x4 S x1 x2 x3)
def f_X6_interval_20 (S : CSt) (x1 : Int32) (x2 : Int32) (x3 : Int32) (x4 : Int32) : Int32 × CSt := if (f_X3_hasPair (ckd S x1.toNatClampNeg) (cln S x1.toNatClampNeg) (cbt S x1.toNatClampNeg) x2) = 0 then (f_X6_interval_2 S) else (f_X6_interval_19 S x1 x3 x4 x2)
def f_X6_interval_21 (x1 : Int32) (S : CSt) (x2 : Int32) (x3 : Int32) (x4 : Int32) : Int32 × CSt := if 0 ≤ x1 ∧ x1 < nI (cn S) then (f_X6_interval_20 S x1 x2 x3 x4) else (f_X6_interval_1 (f_X6_refuse S (1 : Int32)))
def f_X6_interval (S : CSt) (x1 : Int32) (x2 : Int32) (x3 : Int32) (x4 : Int32) : Int32 × CSt := (f_X6_interval_21 x1 S x2 x3 x4)
def zX6_interval : List Cond := .code yX6_interval cX6_interval 9 (some .int) :: zall
theorem iX6_interval : MWv RX6 yX6_interval (.code yX6_interval cX6_interval 9 (some .int)) := ⟨(zin__r12 (.instanceMethod yX6_interval) (List.mem_of_getElem? (i := 19) rfl)), (zin__r12 (.selects RX6 yX6_interval yX6_interval) (List.mem_of_getElem? (i := 20) rfl)), (zin__r1 (.initialized RX6) (List.mem_of_getElem? (i := 2) rfl)), (zin__r12 (.code yX6_interval cX6_interval 9 (some .int)) (List.mem_of_getElem? (i := 21) rfl))⟩
set_option maxHeartbeats 4000000 in
set_option maxRecDepth 100000 in
theorem c_X6_interval (l : Launch) (dC : Nat → ClassId) (dI : Nat → Nat → Nat) (ad : Nat → Nat) (o rw so ba ma : Nat) (cR cJ : ClassId) (sz : Nat) (S : CSt) (x1 : Int32) (x2 : Int32) (x3 : Int32) (x4 : Int32) (hI : cInv S) : Met l yX6_interval zX6_interval ({ frames := 7, cells := 4, slots := 12, locals := 178 }) (va_Pc [.ref o, .int x1, .int x2, .int x3, .int x4] (fun U => cB dC dI ad o rw so ba ma cR cJ sz S U)) (va_Qi (fun r9 S9 => (r9, S9) = f_X6_interval S x1 x2 x3 x4) (cE dC dI ad o rw so ba ma cR cJ (va_A (cWs ad o rw so ba ma cR cJ S) sz)) (va_A (cWs ad o rw so ba ma cR cJ S) sz)) 4 12 (va_A (cWs ad o rw so ba ma cR cJ S) sz) := by
  refine Met.ofW (cc := cX6_interval) (maxL := 9) (ret := (some .int)) (by decide) rfl ?_
  intro p e s m args below meth c s₁ B hml hv
  obtain ⟨rfl, hsz, hP, hK, hD0, hkA⟩ := hv
  have hx := B.exec
  have hb := B.bytes
  have hr := B.returns
  have hts : ∀ w ∈ zall, w.before _ s = true := fun w h => atoms_spec (ws := zX6_interval) B.pre w (List.mem_cons_of_mem _ h)
  have hown : s.vm.findClass RX6 = some m.cls := findClass_of_methodNamed B.named
  have hlocks := B.notSynchronized
  subst hsz
  have hD := hD0.self (sz := s.heap.size)
  generalize hAe : va_A (cWs ad o rw so ba ma cR cJ S) s.heap.size = A at hD hkA ⊢
  have hA : ∀ q : Nat, s.heap.size ≤ q → A q := fun q h => by rw [← hAe]; exact Or.inr h
  have hS : va_S A s.heap s.heap [] := va_S.rf
  have hw : cH dC dI ad o rw so ba ma cR cJ S s s.heap := ⟨hP, hK⟩
  have hk := kA_at hkA hS
  have hlo : ∀ j, j < cn S → cro S j < s.heap.size ∧ cna S j < s.heap.size := fun j hj => ⟨va_at.lt (hP _ _ (cP_obj hj)), va_at.lt (hP _ _ (cP_arr hj))⟩
  have hl := lv_entry ([.ref o, .int x1, .int x2, .int x3, .int x4]) (n := 9) (Nat.le_of_ble_eq_true rfl)
  rw [lg_entry_eq]
  generalize (lg_sl ([.ref o, .int x1, .int x2, .int x3, .int x4]) ++ List.replicate (9 - (lg_sl ([.ref o, .int x1, .int x2, .int x3, .int x4])).length) Slot.unset).toArray = ls at hl ⊢
  have hl : lv_has ls 9 [(0, .ref o), (1, .int x1), (2, .int x2), (3, .int x3), (4, .int x4)] := hl
  have hf : f_X6_interval S x1 x2 x3 x4 = (f_X6_interval_21 x1 S x2 x3 x4) := rfl
  refine lv_aload_n hx hb dX6_interval_0 rfl (lv_at hl 0 rfl) ?_
  refine lv_iload_n hx hb dX6_interval_1 rfl (lv_at hl 1 rfl) ?_
  refine va_csq (va_Run.run (va_runV (As := [.int x1]) (rest := []) ⟨hx, hb, hml, hown, hts⟩ (c_X6_rowAt l dC dI ad o rw so ba ma cR cJ S x1 hI) (cwV 1 hts (gV iX6_rowAt (zin__r3 (.methodLink RX6 51 yX6_rowAt) (List.mem_of_getElem? (i := 9) rfl))) rfl rfl rfl (by decide +kernel) ⟨Nat.le_of_ble_eq_true rfl, Nat.le_of_ble_eq_true rfl⟩) ⟨fun a U g mk q => ⟨q.1, cW_bl q.2⟩, cW_rv hw, fun U hU hW => ⟨rfl, cW_mv hw hU hW⟩⟩ rfl rfl hl.1 rfl (lv_room (Nat.le_of_ble_eq_true rfl)) dX6_interval_2 ⟨Nat.le_of_ble_eq_true rfl, Nat.le_of_ble_eq_true rfl⟩)) (fun r_2 hr_2 => ?_)
  rcases Decidable.em (0 ≤ x1 ∧ x1 < nI (cn S)) with c_2 | c_2
  · rw [if_pos c_2] at hr_2
    subst hr_2
    have hj_q2 : x1.toNatClampNeg < cn S := cRow_lt hI c_2
    have hr_q2 := rH_of hts hw hj_q2
    have hn_q2 : cln S x1.toNatClampNeg ≤ 500 := (hI.2 _ hj_q2).2.2
    have hkq_q2 : ckd S x1.toNatClampNeg < 2 := (hI.2 _ hj_q2).1
    have hf : f_X6_interval S x1 x2 x3 x4 = (f_X6_interval_20 S x1 x2 x3 x4) := hf.trans (if_pos c_2)
    refine lv_astore (lv' := [(5, .ref (cro S x1.toNatClampNeg)), (0, .ref o), (1, .int x1), (2, .int x2), (3, .int x3), (4, .int x4)]) hx hb dX6_interval_5 hl (by decide) rfl (fun ls hl => ?_)
    refine lv_aload hx hb dX6_interval_7 (lv_at hl 0 rfl) ?_
    refine lv_ifnonnull (tgt := 18) hx hb dX6_interval_9 (by decide) ?_
    refine lv_aload hx hb dX6_interval_18 (lv_at hl 0 rfl) ?_
    refine lv_iload_n hx hb dX6_interval_20 rfl (lv_at hl 3 rfl) ?_
    refine vp_callSi (va_Run.run (va_runV (As := [.int x2]) (rest := []) ⟨hx, hb, hml, hown, hts⟩ (c_X3_hasPair l ad (cro S x1.toNatClampNeg) (cna S x1.toNatClampNeg) (cln S x1.toNatClampNeg) (cbt S x1.toNatClampNeg) (ckd S x1.toNatClampNeg) hkq_q2 x2) (cwV 1 hts (gV iX3_hasPair (zin__r12 (.methodLink RX6 161 yX3_hasPair) (List.mem_of_getElem? (i := 22) rfl))) rfl rfl rfl (by decide +kernel) ⟨Nat.le_of_ble_eq_true rfl, Nat.le_of_ble_eq_true rfl⟩) ⟨fun a U g mk q => ⟨q.1, kU_bl q.2.1, rU_bl q.2.2⟩, (rU_rv hr_q2), fun U hU hW => ⟨rfl, ⟨kU_mvH hk hU hW, rU_mvH hr_q2 hU hW⟩⟩⟩ rfl rfl hl.1 rfl (lv_room (Nat.le_of_ble_eq_true rfl)) dX6_interval_21 ⟨Nat.le_of_ble_eq_true rfl, Nat.le_of_ble_eq_true rfl⟩)) (fun r_21 hr_21 => ?_)
    subst hr_21
    refine W_cut (α := Unit) (pcJ := 47) (nL := 9) (fun v => f_X6_interval S x1 x2 x3 x4 = (f_X6_interval_2 S)) (fun v => []) (fun v => [(0, .ref o)]) (fun v ls hf hl => ?_) (fun K_47 => ?_)
    · have hf : f_X6_interval S x1 x2 x3 x4 = (f_X6_interval_1 (f_X6_refuse S (2 : Int32))) := hf
      have hl : lv_has ls 9 [(0, .ref o)] := hl
      refine lv_aload_n hx hb dX6_interval_47 rfl (lv_at hl 0 rfl) ?_
      refine lv_iconst (v := 2) hx hb dX6_interval_48 (by decide) ?_
      have hFc := va_freeAll hD hS hA
      refine va_calli (va_runV (As := [.int (2 : Int32)]) (rest := []) ⟨hx, hb, hml, hown, hts⟩ (c_X6_refuse l dC dI ad o rw so ba ma cR cJ s.heap.size S (2 : Int32)) (cwV 1 hts (gV iX6_refuse (zin__r2 (.methodLink RX6 32 yX6_refuse) (List.mem_of_getElem? (i := 14) rfl))) rfl rfl rfl (by decide +kernel) ⟨Nat.le_of_ble_eq_true rfl, Nat.le_of_ble_eq_true rfl⟩) ⟨fun a U g mk q => ⟨q.1, cB_bl q.2⟩, cW_rv hw, fun U hU hW => ⟨rfl, cB_mv hw hD (kA_in hkA hS hFc) hU hW⟩⟩ rfl rfl hl.1 rfl (lv_room (Nat.le_of_ble_eq_true rfl)) dX6_interval_49 ⟨Nat.le_of_ble_eq_true rfl, Nat.le_of_ble_eq_true rfl⟩) hS (fun q _ h => hFc q h) hFc (fun r_49 S_1 t H1 locs ht hvm hw1 hB hz1 hk1 hS => ?_)
      obtain ⟨hP, -, hD1⟩ := hB
      rw [ht] at hP
      have hD := hD1.weaken (fun k q _ h => hFc q.1 h)
      generalize H1 = H at hP hS ⊢
      have hw : cH dC dI ad o rw so ba ma cR cJ S_1 s H := ⟨hP, hK⟩
      have hk := kA_at hkA hS
      have hf : f_X6_interval S x1 x2 x3 x4 = (r_49, S_1) := hf.trans (congrArg (fun z => (f_X6_interval_1 z)) hw1.symm)
      refine W.widen (k := 4) (n := 12) (Nat.le_of_ble_eq_true rfl) (Nat.le_of_ble_eq_true rfl) ?_
      exact W.iret hx hb hr (fun t ht hW => ⟨⟨_, S_1, rfl, hf.symm, by rw [ht]; exact hP, va_K.moved hW.alike hK, hD⟩, hS.F ht⟩) hS.2.2 dX6_interval_52
    refine lv_if_eq (tgt := 47) hx hb dX6_interval_24 (by decide) (fun c_24 => ?_) (fun c_24 => ?_)
    · have hf : f_X6_interval S x1 x2 x3 x4 = (f_X6_interval_2 S) := hf.trans (if_pos c_24)
      exact K_47 () ls hf (lv_sub hl [1] rfl)
    · have hf : f_X6_interval S x1 x2 x3 x4 = (f_X6_interval_19 S x1 x3 x4 x2) := hf.trans (if_neg c_24)
      refine lv_aload hx hb dX6_interval_27 (lv_at hl 0 rfl) ?_
      refine lv_iload_n hx hb dX6_interval_29 rfl (lv_at hl 4 rfl) ?_
      refine vp_callSi (va_Run.run (va_runV (As := [.int x3]) (rest := []) ⟨hx, hb, hml, hown, hts⟩ (c_X3_hasPair l ad (cro S x1.toNatClampNeg) (cna S x1.toNatClampNeg) (cln S x1.toNatClampNeg) (cbt S x1.toNatClampNeg) (ckd S x1.toNatClampNeg) hkq_q2 x3) (cwV 1 hts (gV iX3_hasPair (zin__r12 (.methodLink RX6 161 yX3_hasPair) (List.mem_of_getElem? (i := 22) rfl))) rfl rfl rfl (by decide +kernel) ⟨Nat.le_of_ble_eq_true rfl, Nat.le_of_ble_eq_true rfl⟩) ⟨fun a U g mk q => ⟨q.1, kU_bl q.2.1, rU_bl q.2.2⟩, (rU_rv hr_q2), fun U hU hW => ⟨rfl, ⟨kU_mvH hk hU hW, rU_mvH hr_q2 hU hW⟩⟩⟩ rfl rfl hl.1 rfl (lv_room (Nat.le_of_ble_eq_true rfl)) dX6_interval_30 ⟨Nat.le_of_ble_eq_true rfl, Nat.le_of_ble_eq_true rfl⟩)) (fun r_30 hr_30 => ?_)
      subst hr_30
      refine lv_if_eq (tgt := 47) hx hb dX6_interval_33 (by decide) (fun c_33 => ?_) (fun c_33 => ?_)
      · have hf : f_X6_interval S x1 x2 x3 x4 = (f_X6_interval_2 S) := hf.trans (if_pos c_33)
        exact K_47 () ls hf (lv_sub hl [1] rfl)
      · have hf : f_X6_interval S x1 x2 x3 x4 = (f_X6_interval_18 x4 S x1 x2 x3) := hf.trans (if_neg c_33)
        refine lv_iload hx hb dX6_interval_36 (lv_at hl 5 rfl) ?_
        refine lv_if_lt (tgt := 47) hx hb dX6_interval_38 (by decide) (fun c_38 => ?_) (fun c_38 => ?_)
        · have hf : f_X6_interval S x1 x2 x3 x4 = (f_X6_interval_2 S) := hf.trans (if_pos c_38)
          exact K_47 () ls hf (lv_sub hl [1] rfl)
        · have hf : f_X6_interval S x1 x2 x3 x4 = (f_X6_interval_17 x4 S x1 x2 x3) := hf.trans (if_neg c_38)
          refine lv_iload hx hb dX6_interval_41 (lv_at hl 5 rfl) ?_
          refine lv_iconst (v := 5) hx hb dX6_interval_43 (by decide) ?_
          refine lv_icmp_le (tgt := 53) hx hb dX6_interval_44 (by decide) (fun c_44 => ?_) (fun c_44 => ?_)
          · have hf : f_X6_interval S x1 x2 x3 x4 = (f_X6_interval_16 S x1 (f_X3_pair (ckd S x1.toNatClampNeg) (cln S x1.toNatClampNeg) (cbt S x1.toNatClampNeg) x2) x2 (f_X3_pair (ckd S x1.toNatClampNeg) (cln S x1.toNatClampNeg) (cbt S x1.toNatClampNeg) x3) x4) := hf.trans (if_pos c_44)
            refine lv_aload hx hb dX6_interval_53 (lv_at hl 0 rfl) ?_
            refine lv_iload_n hx hb dX6_interval_55 rfl (lv_at hl 3 rfl) ?_
            have hFc : ∀ q, va_A [] s.heap.size q → A q := fun q h => hA q (Nat.le_trans hS.1 (va_nil h))
            refine va_callr (va_runV (As := [.int x2]) (rest := []) ⟨hx, hb, hml, hown, hts⟩ (c_X3_pair l dC dI ad (cro S x1.toNatClampNeg) (cna S x1.toNatClampNeg) (cln S x1.toNatClampNeg) (cbt S x1.toNatClampNeg) (ckd S x1.toNatClampNeg) hkq_q2 x2 (pr_in hn_q2 c_24).1 (pr_in hn_q2 c_24).2 s.heap.size) (cwV 1 hts (gV iX3_pair (zin__r13 (.methodLink RX6 166 yX3_pair) (List.mem_of_getElem? (i := 2) rfl))) rfl rfl rfl (by decide +kernel) ⟨Nat.le_of_ble_eq_true rfl, Nat.le_of_ble_eq_true rfl⟩) ⟨fun a U g mk q => ⟨q.1, aB_bl q.2.1, rU_bl q.2.2⟩, rU_rv hr_q2, fun U hU hW => ⟨rfl, aB_mv hk hK hU hW, rU_mvH hr_q2 hU hW⟩⟩ rfl rfl hl.1 rfl (lv_room (Nat.le_of_ble_eq_true rfl)) dX6_interval_56 ⟨Nat.le_of_ble_eq_true rfl, Nat.le_of_ble_eq_true rfl⟩) hS (fun q _ h => hFc q h) hFc (fun u_56 a_56 t H1 locs ht hvm hw1 hB hz1 hk1 hS1 => ?_)
            obtain ⟨hPa, -, hDa⟩ := hB
            rw [ht] at hPa
            have hr_p56 := aI_of hts hK hPa
            have hge_p56 : s.heap.size ≤ a_56 := Nat.le_trans hS.1 (va_nil (hDa.2 0 _ rfl))
            have hP := hP.kept (fun k x hx => hk1 x.1 ((hP k x hx).lt) (va_nil_not ((hP k x hx).lt)))
            have hk := kA_kept hk (fun a h => hk1 a h (va_nil_not h))
            have hr_q2 := rH_kept hr_q2 (fun a h => hk1 a h (va_nil_not h))
            have hS := hS1
            generalize H1 = H at hP hS hk hr_p56 hr_q2 ⊢
            have hw : cH dC dI ad o rw so ba ma cR cJ S s H := ⟨hP, hK⟩
            have hf : f_X6_interval S x1 x2 x3 x4 = (f_X6_interval_16 S x1 u_56 x2 (f_X3_pair (ckd S x1.toNatClampNeg) (cln S x1.toNatClampNeg) (cbt S x1.toNatClampNeg) x3) x4) := hf.trans (congrArg (fun z => (f_X6_interval_16 S x1 z x2 (f_X3_pair (ckd S x1.toNatClampNeg) (cln S x1.toNatClampNeg) (cbt S x1.toNatClampNeg) x3) x4)) hw1.symm)
            refine lv_astore (lv' := [(6, .ref a_56), (5, .ref (cro S x1.toNatClampNeg)), (0, .ref o), (1, .int x1), (2, .int x2), (3, .int x3), (4, .int x4)]) hx hb dX6_interval_59 hl (by decide) rfl (fun ls hl => ?_)
            refine lv_aload hx hb dX6_interval_61 (lv_at hl 1 rfl) ?_
            refine lv_iload_n hx hb dX6_interval_63 rfl (lv_at hl 5 rfl) ?_
            have hFc : ∀ q, va_A [] H.size q → A q := fun q h => hA q (Nat.le_trans hS.1 (va_nil h))
            refine va_callr (va_runV (As := [.int x3]) (rest := []) ⟨hx, hb, hml, hown, hts⟩ (c_X3_pair l dC dI ad (cro S x1.toNatClampNeg) (cna S x1.toNatClampNeg) (cln S x1.toNatClampNeg) (cbt S x1.toNatClampNeg) (ckd S x1.toNatClampNeg) hkq_q2 x3 (pr_in hn_q2 c_33).1 (pr_in hn_q2 c_33).2 H.size) (cwV 1 hts (gV iX3_pair (zin__r13 (.methodLink RX6 166 yX3_pair) (List.mem_of_getElem? (i := 2) rfl))) rfl rfl rfl (by decide +kernel) ⟨Nat.le_of_ble_eq_true rfl, Nat.le_of_ble_eq_true rfl⟩) ⟨fun a U g mk q => ⟨q.1, aB_bl q.2.1, rU_bl q.2.2⟩, rU_rv hr_q2, fun U hU hW => ⟨rfl, aB_mv hk hK hU hW, rU_mvH hr_q2 hU hW⟩⟩ rfl rfl hl.1 rfl (lv_room (Nat.le_of_ble_eq_true rfl)) dX6_interval_64 ⟨Nat.le_of_ble_eq_true rfl, Nat.le_of_ble_eq_true rfl⟩) hS (fun q _ h => hFc q h) hFc (fun u_64 a_64 t H1 locs ht hvm hw1 hB hz1 hk1 hS1 => ?_)
            obtain ⟨hPa, -, hDa⟩ := hB
            rw [ht] at hPa
            have hr_p64 := aI_of hts hK hPa
            have hge_p64 : s.heap.size ≤ a_64 := Nat.le_trans hS.1 (va_nil (hDa.2 0 _ rfl))
            have hP := hP.kept (fun k x hx => hk1 x.1 ((hP k x hx).lt) (va_nil_not ((hP k x hx).lt)))
            have hk := kA_kept hk (fun a h => hk1 a h (va_nil_not h))
            have hr_q2 := rH_kept hr_q2 (fun a h => hk1 a h (va_nil_not h))
            have hr_p56 := iH_kept hr_p56 (fun a h => hk1 a h (va_nil_not h))
            have hS := hS1
            generalize H1 = H at hP hS hk hr_p64 hr_q2 hr_p56 ⊢
            have hw : cH dC dI ad o rw so ba ma cR cJ S s H := ⟨hP, hK⟩
            have hf : f_X6_interval S x1 x2 x3 x4 = (f_X6_interval_16 S x1 u_56 x2 u_64 x4) := hf.trans (congrArg (fun z => (f_X6_interval_16 S x1 u_56 x2 z x4)) hw1.symm)
            refine lv_astore (lv' := [(7, .ref a_64), (6, .ref a_56), (5, .ref (cro S x1.toNatClampNeg)), (0, .ref o), (1, .int x1), (2, .int x2), (3, .int x3), (4, .int x4)]) hx hb dX6_interval_67 hl (by decide) rfl (fun ls hl => ?_)
            refine lv_aload hx hb dX6_interval_69 (lv_at hl 1 rfl) ?_
            refine vp_callSi (va_Run.run (va_runV (As := []) (rest := []) ⟨hx, hb, hml, hown, hts⟩ (c_X0_stands l ad a_56 (ckd S x1.toNatClampNeg) hkq_q2 u_56.1 u_56.2) (cwV 0 hts (gV iX0_stands (zin__r13 (.methodLink RX6 170 yX0_stands) (List.mem_of_getElem? (i := 16) rfl))) rfl rfl rfl (by decide +kernel) ⟨Nat.le_of_ble_eq_true rfl, Nat.le_of_ble_eq_true rfl⟩) ⟨fun a U g mk q => ⟨q.1, kU_bl q.2.1, iU_bl q.2.2⟩, (iU_rv hr_p56), fun U hU hW => ⟨rfl, ⟨kU_mvH hk hU hW, iU_mvH hr_p56 hU hW⟩⟩⟩ rfl rfl hl.1 rfl (lv_room (Nat.le_of_ble_eq_true rfl)) dX6_interval_71 ⟨Nat.le_of_ble_eq_true rfl, Nat.le_of_ble_eq_true rfl⟩)) (fun r_71 hr_71 => ?_)
            subst hr_71
            refine W_cut (α := Unit) (pcJ := 99) (nL := 9) (fun v => f_X6_interval S x1 x2 x3 x4 = (f_X6_interval_5 S x1 x2 u_56)) (fun v => []) (fun v => [(0, .ref o), (2, .int x2), (5, .ref (cro S x1.toNatClampNeg)), (6, .ref a_56)]) (fun v ls hf hl => ?_) (fun K_99 => ?_)
            · have hf : f_X6_interval S x1 x2 x3 x4 = (f_X6_interval_4 S x1 x2 (f_X0_everything (ckd S x1.toNatClampNeg) u_56.1 u_56.2)) := hf
              have hl : lv_has ls 9 [(0, .ref o), (2, .int x2), (5, .ref (cro S x1.toNatClampNeg)), (6, .ref a_56)] := hl
              refine lv_aload hx hb dX6_interval_99 (lv_at hl 2 rfl) ?_
              refine lv_iload_n hx hb dX6_interval_101 rfl (lv_at hl 1 rfl) ?_
              refine lv_aload hx hb dX6_interval_102 (lv_at hl 3 rfl) ?_
              have hFc : ∀ q, va_A [] H.size q → A q := fun q h => hA q (Nat.le_trans hS.1 (va_nil h))
              refine va_callr (va_runV (As := []) (rest := [.int x2, .ref (cro S x1.toNatClampNeg)]) ⟨hx, hb, hml, hown, hts⟩ (c_X0_everything l dC dI ad a_56 (ckd S x1.toNatClampNeg) hkq_q2 u_56.1 u_56.2 H.size) (cwV 0 hts (gV iX0_everything (zin__r14 (.methodLink RX6 176 yX0_everything) (List.mem_of_getElem? (i := 1) rfl))) rfl rfl rfl (by decide +kernel) ⟨Nat.le_of_ble_eq_true rfl, Nat.le_of_ble_eq_true rfl⟩) ⟨fun a U g mk q => ⟨q.1, aB_bl q.2.1, iU_bl q.2.2⟩, iU_rv hr_p56, fun U hU hW => ⟨rfl, aB_mv hk hK hU hW, iU_mvH hr_p56 hU hW⟩⟩ rfl rfl hl.1 rfl (lv_room (Nat.le_of_ble_eq_true rfl)) dX6_interval_104 ⟨Nat.le_of_ble_eq_true rfl, Nat.le_of_ble_eq_true rfl⟩) hS (fun q _ h => hFc q h) hFc (fun u_104 a_104 t H1 locs ht hvm hw1 hB hz1 hk1 hS1 => ?_)
              obtain ⟨hPa, -, hDa⟩ := hB
              rw [ht] at hPa
              have hr_p104 := aI_of hts hK hPa
              have hge_p104 : s.heap.size ≤ a_104 := Nat.le_trans hS.1 (va_nil (hDa.2 0 _ rfl))
              have hP := hP.kept (fun k x hx => hk1 x.1 ((hP k x hx).lt) (va_nil_not ((hP k x hx).lt)))
              have hk := kA_kept hk (fun a h => hk1 a h (va_nil_not h))
              have hr_q2 := rH_kept hr_q2 (fun a h => hk1 a h (va_nil_not h))
              have hr_p56 := iH_kept hr_p56 (fun a h => hk1 a h (va_nil_not h))
              have hr_p64 := iH_kept hr_p64 (fun a h => hk1 a h (va_nil_not h))
              have hS := hS1
              generalize H1 = H at hP hS hk hr_p104 hr_q2 hr_p56 hr_p64 ⊢
              have hw : cH dC dI ad o rw so ba ma cR cJ S s H := ⟨hP, hK⟩
              have hf : f_X6_interval S x1 x2 x3 x4 = (f_X6_interval_4 S x1 x2 u_104) := hf.trans (congrArg (fun z => (f_X6_interval_4 S x1 x2 z)) hw1.symm)
              have hFc := cRow_free (j := x1.toNatClampNeg) hD hS hA hj_q2
              refine va_callv (va_runV (As := [.int x2, .ref a_104]) (rest := []) ⟨hx, hb, hml, hown, hts⟩ (c_X3_putPair l dC dI ad (cro S x1.toNatClampNeg) (ckd S x1.toNatClampNeg) (cna S x1.toNatClampNeg) (cln S x1.toNatClampNeg) hkq_q2 cJ H.size (cbt S x1.toNatClampNeg) x2 a_104 (ckd S x1.toNatClampNeg) hkq_q2 u_104.1 u_104.2 (pr_in hn_q2 c_24).1 (pr_in hn_q2 c_24).2) (cwV 2 hts (gV iX3_putPair (zin__r14 (.methodLink RX6 180 yX3_putPair) (List.mem_of_getElem? (i := 9) rfl))) rfl rfl rfl (by decide +kernel) ⟨Nat.le_of_ble_eq_true rfl, Nat.le_of_ble_eq_true rfl⟩) ⟨fun a U g mk q => ⟨q.1, rB_bl q.2.1, iA_bl q.2.2⟩, rU_rv hr_q2, fun U hU hW => ⟨rfl, ⟨rB_mv hw hD (kA_in hkA hS hFc) hj_q2 hU hW, iA_mv (iH_new hr_p104 (iv_not hge_p104 hr_p104.1.lt (hlo _ hj_q2))) hU hW⟩⟩⟩ rfl rfl hl.1 rfl (lv_room (Nat.le_of_ble_eq_true rfl)) dX6_interval_107 ⟨Nat.le_of_ble_eq_true rfl, Nat.le_of_ble_eq_true rfl⟩) hS (fun q _ h => hFc q h) hFc (fun f_2 t H1 locs ht hvm hw1 hB hz1 hk1 hS => ?_)
              obtain ⟨hP1, -, hD1⟩ := hB
              rw [ht] at hP1
              obtain ⟨hP, hD⟩ := cW_put hw.1 hD hj_q2 hP1 hk1
              generalize H1 = H at hP hS ⊢
              obtain ⟨S_3, e_S_3⟩ : ∃ z : CSt, z = (cset_bt S x1.toNatClampNeg f_2) := ⟨_, rfl⟩
              rw [← e_S_3] at hP hD
              have hw : cH dC dI ad o rw so ba ma cR cJ S_3 s H := ⟨hP, hK⟩
              have hk := kA_at hkA hS
              have hI : cInv S_3 := by rw [e_S_3]; exact hI
              have hf : f_X6_interval S x1 x2 x3 x4 = (f_X6_interval_1 (f_X6_answer S_3 (1 : Int32))) := by rw [e_S_3]; exact hf.trans (congrArg (fun z => (f_X6_interval_3 S x1 z)) hw1.symm)
              refine lv_aload_n hx hb dX6_interval_110 rfl (lv_at hl 0 rfl) ?_
              refine lv_iconst (v := 1) hx hb dX6_interval_111 (by decide) ?_
              have hFc := va_freeAll hD hS hA
              refine va_calli (va_runV (As := [.int (1 : Int32)]) (rest := []) ⟨hx, hb, hml, hown, hts⟩ (c_X6_answer l dC dI ad o rw so ba ma cR cJ H.size S_3 (1 : Int32)) (cwV 1 hts (gV iX6_answer (zin__r3 (.methodLink RX6 48 yX6_answer) (List.mem_of_getElem? (i := 0) rfl))) rfl rfl rfl (by decide +kernel) ⟨Nat.le_of_ble_eq_true rfl, Nat.le_of_ble_eq_true rfl⟩) ⟨fun a U g mk q => ⟨q.1, cB_bl q.2⟩, cW_rv hw, fun U hU hW => ⟨rfl, cB_mv hw hD (kA_in hkA hS hFc) hU hW⟩⟩ rfl rfl hl.1 rfl (lv_room (Nat.le_of_ble_eq_true rfl)) dX6_interval_112 ⟨Nat.le_of_ble_eq_true rfl, Nat.le_of_ble_eq_true rfl⟩) hS (fun q _ h => hFc q h) hFc (fun r_112 S_4 t H1 locs ht hvm hw1 hB hz1 hk1 hS => ?_)
              obtain ⟨hP, -, hD1⟩ := hB
              rw [ht] at hP
              have hD := hD1.weaken (fun k q _ h => hFc q.1 h)
              generalize H1 = H at hP hS ⊢
              have hw : cH dC dI ad o rw so ba ma cR cJ S_4 s H := ⟨hP, hK⟩
              have hk := kA_at hkA hS
              have hf : f_X6_interval S x1 x2 x3 x4 = (r_112, S_4) := hf.trans (congrArg (fun z => (f_X6_interval_1 z)) hw1.symm)
              refine W.widen (k := 4) (n := 12) (Nat.le_of_ble_eq_true rfl) (Nat.le_of_ble_eq_true rfl) ?_
              exact W.iret hx hb hr (fun t ht hW => ⟨⟨_, S_4, rfl, hf.symm, by rw [ht]; exact hP, va_K.moved hW.alike hK, hD⟩, hS.F ht⟩) hS.2.2 dX6_interval_115
            refine lv_if_eq (tgt := 99) hx hb dX6_interval_74 (by decide) (fun c_74 => ?_) (fun c_74 => ?_)
            · have hf : f_X6_interval S x1 x2 x3 x4 = (f_X6_interval_5 S x1 x2 u_56) := hf.trans (if_pos c_74)
              exact K_99 () ls hf (lv_sub hl [3, 5, 2, 1] rfl)
            · have hf : f_X6_interval S x1 x2 x3 x4 = (f_X6_interval_15 S x1 u_64 x2 u_56 x4) := hf.trans (if_neg c_74)
              refine lv_aload hx hb dX6_interval_77 (lv_at hl 0 rfl) ?_
              refine vp_callSi (va_Run.run (va_runV (As := []) (rest := []) ⟨hx, hb, hml, hown, hts⟩ (c_X0_stands l ad a_64 (ckd S x1.toNatClampNeg) hkq_q2 u_64.1 u_64.2) (cwV 0 hts (gV iX0_stands (zin__r13 (.methodLink RX6 170 yX0_stands) (List.mem_of_getElem? (i := 16) rfl))) rfl rfl rfl (by decide +kernel) ⟨Nat.le_of_ble_eq_true rfl, Nat.le_of_ble_eq_true rfl⟩) ⟨fun a U g mk q => ⟨q.1, kU_bl q.2.1, iU_bl q.2.2⟩, (iU_rv hr_p64), fun U hU hW => ⟨rfl, ⟨kU_mvH hk hU hW, iU_mvH hr_p64 hU hW⟩⟩⟩ rfl rfl hl.1 rfl (lv_room (Nat.le_of_ble_eq_true rfl)) dX6_interval_79 ⟨Nat.le_of_ble_eq_true rfl, Nat.le_of_ble_eq_true rfl⟩)) (fun r_79 hr_79 => ?_)
              subst hr_79
              refine lv_if_eq (tgt := 99) hx hb dX6_interval_82 (by decide) (fun c_82 => ?_) (fun c_82 => ?_)
              · have hf : f_X6_interval S x1 x2 x3 x4 = (f_X6_interval_5 S x1 x2 u_56) := hf.trans (if_pos c_82)
                exact K_99 () ls hf (lv_sub hl [3, 5, 2, 1] rfl)
              · have hf : f_X6_interval S x1 x2 x3 x4 = (f_X6_interval_14 x4 S x1 u_64 u_56 x2) := hf.trans (if_neg c_82)
                refine lv_iload hx hb dX6_interval_85 (lv_at hl 7 rfl) ?_
                refine lv_iconst (v := 3) hx hb dX6_interval_87 (by decide) ?_
                refine W_cut (α := Unit) (pcJ := 116) (nL := 9) (fun v => f_X6_interval S x1 x2 x3 x4 = (f_X6_interval_12 x4 S x1 u_56 u_64 x2)) (fun v => []) (fun v => [(0, .ref o), (2, .int x2), (4, .int x4), (5, .ref (cro S x1.toNatClampNeg)), (6, .ref a_56), (7, .ref a_64)]) (fun v ls hf hl => ?_) (fun K_116 => ?_)
                · have hf : f_X6_interval S x1 x2 x3 x4 = (f_X6_interval_11 x4 S x1 (f_X0_acted (ckd S x1.toNatClampNeg) u_56.1 u_56.2 x4 (ckd S x1.toNatClampNeg) u_64.1 u_64.2) x2 u_56) := hf
                  have hl : lv_has ls 9 [(0, .ref o), (2, .int x2), (4, .int x4), (5, .ref (cro S x1.toNatClampNeg)), (6, .ref a_56), (7, .ref a_64)] := hl
                  refine lv_aload hx hb dX6_interval_116 (lv_at hl 4 rfl) ?_
                  refine lv_iload hx hb dX6_interval_118 (lv_at hl 2 rfl) ?_
                  refine lv_aload hx hb dX6_interval_120 (lv_at hl 5 rfl) ?_
                  have hFc : ∀ q, va_A [] H.size q → A q := fun q h => hA q (Nat.le_trans hS.1 (va_nil h))
                  refine va_callr (va_runV (As := [.int x4, .ref a_64]) (rest := []) ⟨hx, hb, hml, hown, hts⟩ (c_X0_acted l dC dI ad a_56 (ckd S x1.toNatClampNeg) hkq_q2 u_56.1 u_56.2 x4 a_64 (ckd S x1.toNatClampNeg) hkq_q2 u_64.1 u_64.2 H.size) (cwV 2 hts (gV iX0_acted (zin__r14 (.methodLink RX6 184 yX0_acted) (List.mem_of_getElem? (i := 15) rfl))) rfl rfl rfl (by decide +kernel) ⟨Nat.le_of_ble_eq_true rfl, Nat.le_of_ble_eq_true rfl⟩) ⟨fun a U g mk q => ⟨q.1, aB_bl q.2.1, iU_bl q.2.2.1, iU_bl q.2.2.2⟩, iU_rv hr_p56, fun U hU hW => ⟨rfl, aB_mv hk hK hU hW, iU_mvH hr_p56 hU hW, iU_mvH hr_p64 hU hW⟩⟩ rfl rfl hl.1 rfl (lv_room (Nat.le_of_ble_eq_true rfl)) dX6_interval_122 ⟨Nat.le_of_ble_eq_true rfl, Nat.le_of_ble_eq_true rfl⟩) hS (fun q _ h => hFc q h) hFc (fun u_122 a_122 t H1 locs ht hvm hw1 hB hz1 hk1 hS1 => ?_)
                  obtain ⟨hPa, -, hDa⟩ := hB
                  rw [ht] at hPa
                  have hr_p122 := aI_of hts hK hPa
                  have hge_p122 : s.heap.size ≤ a_122 := Nat.le_trans hS.1 (va_nil (hDa.2 0 _ rfl))
                  have hP := hP.kept (fun k x hx => hk1 x.1 ((hP k x hx).lt) (va_nil_not ((hP k x hx).lt)))
                  have hk := kA_kept hk (fun a h => hk1 a h (va_nil_not h))
                  have hr_q2 := rH_kept hr_q2 (fun a h => hk1 a h (va_nil_not h))
                  have hr_p56 := iH_kept hr_p56 (fun a h => hk1 a h (va_nil_not h))
                  have hr_p64 := iH_kept hr_p64 (fun a h => hk1 a h (va_nil_not h))
                  have hS := hS1
                  generalize H1 = H at hP hS hk hr_p122 hr_q2 hr_p56 hr_p64 ⊢
                  have hw : cH dC dI ad o rw so ba ma cR cJ S s H := ⟨hP, hK⟩
                  have hf : f_X6_interval S x1 x2 x3 x4 = (f_X6_interval_11 x4 S x1 u_122 x2 u_56) := hf.trans (congrArg (fun z => (f_X6_interval_11 x4 S x1 z x2 u_56)) hw1.symm)
                  refine lv_astore (lv' := [(8, .ref a_122), (0, .ref o), (2, .int x2), (4, .int x4), (5, .ref (cro S x1.toNatClampNeg)), (6, .ref a_56), (7, .ref a_64)]) hx hb dX6_interval_125 hl (by decide) rfl (fun ls hl => ?_)
                  refine lv_iload hx hb dX6_interval_127 (lv_at hl 3 rfl) ?_
                  refine lv_iconst (v := 5) hx hb dX6_interval_129 (by decide) ?_
                  refine W_cut (α := Unit) (pcJ := 158) (nL := 9) (fun v => f_X6_interval S x1 x2 x3 x4 = (f_X6_interval_7 S x1 x2 u_122)) (fun v => []) (fun v => [(0, .ref o), (2, .int x2), (5, .ref (cro S x1.toNatClampNeg)), (8, .ref a_122)]) (fun v ls hf hl => ?_) (fun K_158 => ?_)
                  · have hf : f_X6_interval S x1 x2 x3 x4 = (f_X6_interval_6 S x1 (f_X3_putPair (cbt S x1.toNatClampNeg) (ckd S x1.toNatClampNeg) x2 (ckd S x1.toNatClampNeg) u_122.1 u_122.2)) := hf
                    have hl : lv_has ls 9 [(0, .ref o), (2, .int x2), (5, .ref (cro S x1.toNatClampNeg)), (8, .ref a_122)] := hl
                    refine lv_aload hx hb dX6_interval_158 (lv_at hl 2 rfl) ?_
                    refine lv_iload_n hx hb dX6_interval_160 rfl (lv_at hl 1 rfl) ?_
                    refine lv_aload hx hb dX6_interval_161 (lv_at hl 3 rfl) ?_
                    have hFc := cRow_free (j := x1.toNatClampNeg) hD hS hA hj_q2
                    refine va_callv (va_runV (As := [.int x2, .ref a_122]) (rest := []) ⟨hx, hb, hml, hown, hts⟩ (c_X3_putPair l dC dI ad (cro S x1.toNatClampNeg) (ckd S x1.toNatClampNeg) (cna S x1.toNatClampNeg) (cln S x1.toNatClampNeg) hkq_q2 cJ H.size (cbt S x1.toNatClampNeg) x2 a_122 (ckd S x1.toNatClampNeg) hkq_q2 u_122.1 u_122.2 (pr_in hn_q2 c_24).1 (pr_in hn_q2 c_24).2) (cwV 2 hts (gV iX3_putPair (zin__r14 (.methodLink RX6 180 yX3_putPair) (List.mem_of_getElem? (i := 9) rfl))) rfl rfl rfl (by decide +kernel) ⟨Nat.le_of_ble_eq_true rfl, Nat.le_of_ble_eq_true rfl⟩) ⟨fun a U g mk q => ⟨q.1, rB_bl q.2.1, iA_bl q.2.2⟩, rU_rv hr_q2, fun U hU hW => ⟨rfl, ⟨rB_mv hw hD (kA_in hkA hS hFc) hj_q2 hU hW, iA_mv (iH_new hr_p122 (iv_not hge_p122 hr_p122.1.lt (hlo _ hj_q2))) hU hW⟩⟩⟩ rfl rfl hl.1 rfl (lv_room (Nat.le_of_ble_eq_true rfl)) dX6_interval_163 ⟨Nat.le_of_ble_eq_true rfl, Nat.le_of_ble_eq_true rfl⟩) hS (fun q _ h => hFc q h) hFc (fun f_5 t H1 locs ht hvm hw1 hB hz1 hk1 hS => ?_)
                    obtain ⟨hP1, -, hD1⟩ := hB
                    rw [ht] at hP1
                    obtain ⟨hP, hD⟩ := cW_put hw.1 hD hj_q2 hP1 hk1
                    generalize H1 = H at hP hS ⊢
                    obtain ⟨S_6, e_S_6⟩ : ∃ z : CSt, z = (cset_bt S x1.toNatClampNeg f_5) := ⟨_, rfl⟩
                    rw [← e_S_6] at hP hD
                    have hw : cH dC dI ad o rw so ba ma cR cJ S_6 s H := ⟨hP, hK⟩
                    have hk := kA_at hkA hS
                    have hI : cInv S_6 := by rw [e_S_6]; exact hI
                    have hf : f_X6_interval S x1 x2 x3 x4 = (f_X6_interval_1 (f_X6_answer S_6 (0 : Int32))) := by rw [e_S_6]; exact hf.trans (congrArg (fun z => (f_X6_interval_6 S x1 z)) hw1.symm)
                    refine lv_aload_n hx hb dX6_interval_166 rfl (lv_at hl 0 rfl) ?_
                    refine lv_iconst (v := 0) hx hb dX6_interval_167 (by decide) ?_
                    have hFc := va_freeAll hD hS hA
                    refine va_calli (va_runV (As := [.int (0 : Int32)]) (rest := []) ⟨hx, hb, hml, hown, hts⟩ (c_X6_answer l dC dI ad o rw so ba ma cR cJ H.size S_6 (0 : Int32)) (cwV 1 hts (gV iX6_answer (zin__r3 (.methodLink RX6 48 yX6_answer) (List.mem_of_getElem? (i := 0) rfl))) rfl rfl rfl (by decide +kernel) ⟨Nat.le_of_ble_eq_true rfl, Nat.le_of_ble_eq_true rfl⟩) ⟨fun a U g mk q => ⟨q.1, cB_bl q.2⟩, cW_rv hw, fun U hU hW => ⟨rfl, cB_mv hw hD (kA_in hkA hS hFc) hU hW⟩⟩ rfl rfl hl.1 rfl (lv_room (Nat.le_of_ble_eq_true rfl)) dX6_interval_168 ⟨Nat.le_of_ble_eq_true rfl, Nat.le_of_ble_eq_true rfl⟩) hS (fun q _ h => hFc q h) hFc (fun r_168 S_7 t H1 locs ht hvm hw1 hB hz1 hk1 hS => ?_)
                    obtain ⟨hP, -, hD1⟩ := hB
                    rw [ht] at hP
                    have hD := hD1.weaken (fun k q _ h => hFc q.1 h)
                    generalize H1 = H at hP hS ⊢
                    have hw : cH dC dI ad o rw so ba ma cR cJ S_7 s H := ⟨hP, hK⟩
                    have hk := kA_at hkA hS
                    have hf : f_X6_interval S x1 x2 x3 x4 = (r_168, S_7) := hf.trans (congrArg (fun z => (f_X6_interval_1 z)) hw1.symm)
                    refine W.widen (k := 4) (n := 12) (Nat.le_of_ble_eq_true rfl) (Nat.le_of_ble_eq_true rfl) ?_
                    exact W.iret hx hb hr (fun t ht hW => ⟨⟨_, S_7, rfl, hf.symm, by rw [ht]; exact hP, va_K.moved hW.alike hK, hD⟩, hS.F ht⟩) hS.2.2 dX6_interval_171
                  refine lv_icmp_ne (tgt := 158) hx hb dX6_interval_130 (by decide) (fun c_130 => ?_) (fun c_130 => ?_)
                  · have hf : f_X6_interval S x1 x2 x3 x4 = (f_X6_interval_7 S x1 x2 u_122) := hf.trans (if_neg c_130)
                    exact K_158 () ls hf (lv_sub hl [1, 2, 4, 0] rfl)
                  · have hf : f_X6_interval S x1 x2 x3 x4 = (f_X6_interval_10 S x1 u_122 x2 u_56) := hf.trans (if_pos c_130)
                    refine lv_aload hx hb dX6_interval_133 (lv_at hl 0 rfl) ?_
                    refine vp_callSi (va_Run.run (va_runV (As := []) (rest := []) ⟨hx, hb, hml, hown, hts⟩ (c_X0_stands l ad a_122 (ckd S x1.toNatClampNeg) hkq_q2 u_122.1 u_122.2) (cwV 0 hts (gV iX0_stands (zin__r13 (.methodLink RX6 170 yX0_stands) (List.mem_of_getElem? (i := 16) rfl))) rfl rfl rfl (by decide +kernel) ⟨Nat.le_of_ble_eq_true rfl, Nat.le_of_ble_eq_true rfl⟩) ⟨fun a U g mk q => ⟨q.1, kU_bl q.2.1, iU_bl q.2.2⟩, (iU_rv hr_p122), fun U hU hW => ⟨rfl, ⟨kU_mvH hk hU hW, iU_mvH hr_p122 hU hW⟩⟩⟩ rfl rfl hl.1 rfl (lv_room (Nat.le_of_ble_eq_true rfl)) dX6_interval_135 ⟨Nat.le_of_ble_eq_true rfl, Nat.le_of_ble_eq_true rfl⟩)) (fun r_135 hr_135 => ?_)
                    subst hr_135
                    refine lv_if_ne (tgt := 158) hx hb dX6_interval_138 (by decide) (fun c_138 => ?_) (fun c_138 => ?_)
                    · have hf : f_X6_interval S x1 x2 x3 x4 = (f_X6_interval_7 S x1 x2 u_122) := hf.trans (if_neg c_138)
                      exact K_158 () ls hf (lv_sub hl [1, 2, 4, 0] rfl)
                    · have hf : f_X6_interval S x1 x2 x3 x4 = (f_X6_interval_9 S x1 x2 (f_X0_nothing (ckd S x1.toNatClampNeg) u_56.1 u_56.2)) := hf.trans (if_pos c_138)
                      refine lv_aload hx hb dX6_interval_141 (lv_at hl 4 rfl) ?_
                      refine lv_iload_n hx hb dX6_interval_143 rfl (lv_at hl 2 rfl) ?_
                      refine lv_aload hx hb dX6_interval_144 (lv_at hl 5 rfl) ?_
                      have hFc : ∀ q, va_A [] H.size q → A q := fun q h => hA q (Nat.le_trans hS.1 (va_nil h))
                      refine va_callr (va_runV (As := []) (rest := [.int x2, .ref (cro S x1.toNatClampNeg)]) ⟨hx, hb, hml, hown, hts⟩ (c_X0_nothing l dC dI ad a_56 (ckd S x1.toNatClampNeg) hkq_q2 u_56.1 u_56.2 H.size) (cwV 0 hts (gV iX0_nothing (zin__r16 (.methodLink RX6 187 yX0_nothing) (List.mem_of_getElem? (i := 11) rfl))) rfl rfl rfl (by decide +kernel) ⟨Nat.le_of_ble_eq_true rfl, Nat.le_of_ble_eq_true rfl⟩) ⟨fun a U g mk q => ⟨q.1, aB_bl q.2.1, iU_bl q.2.2⟩, iU_rv hr_p56, fun U hU hW => ⟨rfl, aB_mv hk hK hU hW, iU_mvH hr_p56 hU hW⟩⟩ rfl rfl hl.1 rfl (lv_room (Nat.le_of_ble_eq_true rfl)) dX6_interval_146 ⟨Nat.le_of_ble_eq_true rfl, Nat.le_of_ble_eq_true rfl⟩) hS (fun q _ h => hFc q h) hFc (fun u_146 a_146 t H1 locs ht hvm hw1 hB hz1 hk1 hS1 => ?_)
                      obtain ⟨hPa, -, hDa⟩ := hB
                      rw [ht] at hPa
                      have hr_p146 := aI_of hts hK hPa
                      have hge_p146 : s.heap.size ≤ a_146 := Nat.le_trans hS.1 (va_nil (hDa.2 0 _ rfl))
                      have hP := hP.kept (fun k x hx => hk1 x.1 ((hP k x hx).lt) (va_nil_not ((hP k x hx).lt)))
                      have hk := kA_kept hk (fun a h => hk1 a h (va_nil_not h))
                      have hr_q2 := rH_kept hr_q2 (fun a h => hk1 a h (va_nil_not h))
                      have hr_p56 := iH_kept hr_p56 (fun a h => hk1 a h (va_nil_not h))
                      have hr_p64 := iH_kept hr_p64 (fun a h => hk1 a h (va_nil_not h))
                      have hr_p122 := iH_kept hr_p122 (fun a h => hk1 a h (va_nil_not h))
                      have hS := hS1
                      generalize H1 = H at hP hS hk hr_p146 hr_q2 hr_p56 hr_p64 hr_p122 ⊢
                      have hw : cH dC dI ad o rw so ba ma cR cJ S s H := ⟨hP, hK⟩
                      have hf : f_X6_interval S x1 x2 x3 x4 = (f_X6_interval_9 S x1 x2 u_146) := hf.trans (congrArg (fun z => (f_X6_interval_9 S x1 x2 z)) hw1.symm)
                      have hFc := cRow_free (j := x1.toNatClampNeg) hD hS hA hj_q2
                      refine va_callv (va_runV (As := [.int x2, .ref a_146]) (rest := []) ⟨hx, hb, hml, hown, hts⟩ (c_X3_putPair l dC dI ad (cro S x1.toNatClampNeg) (ckd S x1.toNatClampNeg) (cna S x1.toNatClampNeg) (cln S x1.toNatClampNeg) hkq_q2 cJ H.size (cbt S x1.toNatClampNeg) x2 a_146 (ckd S x1.toNatClampNeg) hkq_q2 u_146.1 u_146.2 (pr_in hn_q2 c_24).1 (pr_in hn_q2 c_24).2) (cwV 2 hts (gV iX3_putPair (zin__r14 (.methodLink RX6 180 yX3_putPair) (List.mem_of_getElem? (i := 9) rfl))) rfl rfl rfl (by decide +kernel) ⟨Nat.le_of_ble_eq_true rfl, Nat.le_of_ble_eq_true rfl⟩) ⟨fun a U g mk q => ⟨q.1, rB_bl q.2.1, iA_bl q.2.2⟩, rU_rv hr_q2, fun U hU hW => ⟨rfl, ⟨rB_mv hw hD (kA_in hkA hS hFc) hj_q2 hU hW, iA_mv (iH_new hr_p146 (iv_not hge_p146 hr_p146.1.lt (hlo _ hj_q2))) hU hW⟩⟩⟩ rfl rfl hl.1 rfl (lv_room (Nat.le_of_ble_eq_true rfl)) dX6_interval_149 ⟨Nat.le_of_ble_eq_true rfl, Nat.le_of_ble_eq_true rfl⟩) hS (fun q _ h => hFc q h) hFc (fun f_8 t H1 locs ht hvm hw1 hB hz1 hk1 hS => ?_)
                      obtain ⟨hP1, -, hD1⟩ := hB
                      rw [ht] at hP1
                      obtain ⟨hP, hD⟩ := cW_put hw.1 hD hj_q2 hP1 hk1
                      generalize H1 = H at hP hS ⊢
                      obtain ⟨S_9, e_S_9⟩ : ∃ z : CSt, z = (cset_bt S x1.toNatClampNeg f_8) := ⟨_, rfl⟩
                      rw [← e_S_9] at hP hD
                      have hw : cH dC dI ad o rw so ba ma cR cJ S_9 s H := ⟨hP, hK⟩
                      have hk := kA_at hkA hS
                      have hI : cInv S_9 := by rw [e_S_9]; exact hI
                      have hf : f_X6_interval S x1 x2 x3 x4 = (f_X6_interval_1 (f_X6_answer S_9 (2 : Int32))) := by rw [e_S_9]; exact hf.trans (congrArg (fun z => (f_X6_interval_8 S x1 z)) hw1.symm)
                      refine lv_aload_n hx hb dX6_interval_152 rfl (lv_at hl 1 rfl) ?_
                      refine lv_iconst (v := 2) hx hb dX6_interval_153 (by decide) ?_
                      have hFc := va_freeAll hD hS hA
                      refine va_calli (va_runV (As := [.int (2 : Int32)]) (rest := []) ⟨hx, hb, hml, hown, hts⟩ (c_X6_answer l dC dI ad o rw so ba ma cR cJ H.size S_9 (2 : Int32)) (cwV 1 hts (gV iX6_answer (zin__r3 (.methodLink RX6 48 yX6_answer) (List.mem_of_getElem? (i := 0) rfl))) rfl rfl rfl (by decide +kernel) ⟨Nat.le_of_ble_eq_true rfl, Nat.le_of_ble_eq_true rfl⟩) ⟨fun a U g mk q => ⟨q.1, cB_bl q.2⟩, cW_rv hw, fun U hU hW => ⟨rfl, cB_mv hw hD (kA_in hkA hS hFc) hU hW⟩⟩ rfl rfl hl.1 rfl (lv_room (Nat.le_of_ble_eq_true rfl)) dX6_interval_154 ⟨Nat.le_of_ble_eq_true rfl, Nat.le_of_ble_eq_true rfl⟩) hS (fun q _ h => hFc q h) hFc (fun r_154 S_10 t H1 locs ht hvm hw1 hB hz1 hk1 hS => ?_)
                      obtain ⟨hP, -, hD1⟩ := hB
                      rw [ht] at hP
                      have hD := hD1.weaken (fun k q _ h => hFc q.1 h)
                      generalize H1 = H at hP hS ⊢
                      have hw : cH dC dI ad o rw so ba ma cR cJ S_10 s H := ⟨hP, hK⟩
                      have hk := kA_at hkA hS
                      have hf : f_X6_interval S x1 x2 x3 x4 = (r_154, S_10) := hf.trans (congrArg (fun z => (f_X6_interval_1 z)) hw1.symm)
                      refine W.widen (k := 4) (n := 12) (Nat.le_of_ble_eq_true rfl) (Nat.le_of_ble_eq_true rfl) ?_
                      exact W.iret hx hb hr (fun t ht hW => ⟨⟨_, S_10, rfl, hf.symm, by rw [ht]; exact hP, va_K.moved hW.alike hK, hD⟩, hS.F ht⟩) hS.2.2 dX6_interval_157
                refine lv_icmp_ne (tgt := 116) hx hb dX6_interval_88 (by decide) (fun c_88 => ?_) (fun c_88 => ?_)
                · have hf : f_X6_interval S x1 x2 x3 x4 = (f_X6_interval_12 x4 S x1 u_56 u_64 x2) := hf.trans (if_neg c_88)
                  exact K_116 () ls hf (lv_sub hl [3, 5, 7, 2, 1, 0] rfl)
                · have hf : f_X6_interval S x1 x2 x3 x4 = (f_X6_interval_13 S x1 u_64 x4 u_56 x2) := hf.trans (if_pos c_88)
                  refine lv_aload hx hb dX6_interval_91 (lv_at hl 0 rfl) ?_
                  refine vp_callSi (va_Run.run (va_runV (As := []) (rest := []) ⟨hx, hb, hml, hown, hts⟩ (c_X0_hasZero l ad a_64 (ckd S x1.toNatClampNeg) hkq_q2 u_64.1 u_64.2) (cwV 0 hts (gV iX0_hasZero (zin__r13 (.methodLink RX6 173 yX0_hasZero) (List.mem_of_getElem? (i := 21) rfl))) rfl rfl rfl (by decide +kernel) ⟨Nat.le_of_ble_eq_true rfl, Nat.le_of_ble_eq_true rfl⟩) ⟨fun a U g mk q => ⟨q.1, kU_bl q.2.1, iU_bl q.2.2⟩, (iU_rv hr_p64), fun U hU hW => ⟨rfl, ⟨kU_mvH hk hU hW, iU_mvH hr_p64 hU hW⟩⟩⟩ rfl rfl hl.1 rfl (lv_room (Nat.le_of_ble_eq_true rfl)) dX6_interval_93 ⟨Nat.le_of_ble_eq_true rfl, Nat.le_of_ble_eq_true rfl⟩)) (fun r_93 hr_93 => ?_)
                  subst hr_93
                  refine lv_if_eq (tgt := 116) hx hb dX6_interval_96 (by decide) (fun c_96 => ?_) (fun c_96 => ?_)
                  · have hf : f_X6_interval S x1 x2 x3 x4 = (f_X6_interval_12 x4 S x1 u_56 u_64 x2) := hf.trans (if_pos c_96)
                    exact K_116 () ls hf (lv_sub hl [3, 5, 7, 2, 1, 0] rfl)
                  · have hf : f_X6_interval S x1 x2 x3 x4 = (f_X6_interval_5 S x1 x2 u_56) := hf.trans (if_neg c_96)
                    exact K_99 () ls hf (lv_sub hl [3, 5, 2, 1] rfl)
          · have hf : f_X6_interval S x1 x2 x3 x4 = (f_X6_interval_2 S) := hf.trans (if_neg c_44)
            exact K_47 () ls hf (lv_sub hl [1] rfl)
  · rw [if_neg c_2] at hr_2
    subst hr_2
    have hf : f_X6_interval S x1 x2 x3 x4 = (f_X6_interval_1 (f_X6_refuse S (1 : Int32))) := hf.trans (if_neg c_2)
    refine lv_astoreN (lv' := [(5, .null), (0, .ref o), (1, .int x1), (2, .int x2), (3, .int x3), (4, .int x4)]) hx hb dX6_interval_5 hl (by decide) rfl (fun ls hl => ?_)
    refine lv_aloadN hx hb dX6_interval_7 (lv_at hl 0 rfl) ?_
    refine lv_ifnonnullN hx hb dX6_interval_9 ?_
    refine lv_aload_n hx hb dX6_interval_12 rfl (lv_at hl 1 rfl) ?_
    refine lv_iconst (v := 1) hx hb dX6_interval_13 (by decide) ?_
    have hFc := va_freeAll hD hS hA
    refine va_calli (va_runV (As := [.int (1 : Int32)]) (rest := []) ⟨hx, hb, hml, hown, hts⟩ (c_X6_refuse l dC dI ad o rw so ba ma cR cJ s.heap.size S (1 : Int32)) (cwV 1 hts (gV iX6_refuse (zin__r2 (.methodLink RX6 32 yX6_refuse) (List.mem_of_getElem? (i := 14) rfl))) rfl rfl rfl (by decide +kernel) ⟨Nat.le_of_ble_eq_true rfl, Nat.le_of_ble_eq_true rfl⟩) ⟨fun a U g mk q => ⟨q.1, cB_bl q.2⟩, cW_rv hw, fun U hU hW => ⟨rfl, cB_mv hw hD (kA_in hkA hS hFc) hU hW⟩⟩ rfl rfl hl.1 rfl (lv_room (Nat.le_of_ble_eq_true rfl)) dX6_interval_14 ⟨Nat.le_of_ble_eq_true rfl, Nat.le_of_ble_eq_true rfl⟩) hS (fun q _ h => hFc q h) hFc (fun r_14 S_11 t H1 locs ht hvm hw1 hB hz1 hk1 hS => ?_)
    obtain ⟨hP, -, hD1⟩ := hB
    rw [ht] at hP
    have hD := hD1.weaken (fun k q _ h => hFc q.1 h)
    generalize H1 = H at hP hS ⊢
    have hw : cH dC dI ad o rw so ba ma cR cJ S_11 s H := ⟨hP, hK⟩
    have hk := kA_at hkA hS
    have hf : f_X6_interval S x1 x2 x3 x4 = (r_14, S_11) := hf.trans (congrArg (fun z => (f_X6_interval_1 z)) hw1.symm)
    refine W.widen (k := 4) (n := 12) (Nat.le_of_ble_eq_true rfl) (Nat.le_of_ble_eq_true rfl) ?_
    exact W.iret hx hb hr (fun t ht hW => ⟨⟨_, S_11, rfl, hf.symm, by rw [ht]; exact hP, va_K.moved hW.alike hK, hD⟩, hS.F ht⟩) hS.2.2 dX6_interval_17

