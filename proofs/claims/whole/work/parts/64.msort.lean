def f_X7_sort_1 (rec_221 : MSt → Int32 → Int32 → (Int32 × MSt)) (eS : MSt) (x1 : Int32) (s7 : Int32) (v6_4 : Int32) : Int32 × MSt := (rec_221 (mset_b eS (vp_updL (mb eS) ((nI (mf eS x1.toNatClampNeg)) + s7).toNatClampNeg (mw eS s7.toNatClampNeg))) v6_4 (s7 + (1 : Int32)))
def f_X7_sort_2 (eS : MSt) (s7 : Int32) (x1 : Int32) (rec_221 : MSt → Int32 → Int32 → (Int32 × MSt)) (s6 : Int32) : Int32 × MSt := if (mw eS s7.toNatClampNeg) = (f_X7_at eS x1 s7) then (f_X7_sort_1 rec_221 eS x1 s7 s6) else (f_X7_sort_1 rec_221 eS x1 s7 (s6 + (1 : Int32)))
def f_X7_sort_3 (v4_3 : Int32) (s7 : Int32) (s6 : Int32) (eS : MSt) (x1 : Int32) (rec_221 : MSt → Int32 → Int32 → (Int32 × MSt)) : Int32 × MSt := if v4_3 ≤ s7 then (s6, eS) else (f_X7_sort_2 eS s7 x1 rec_221 s6)
def f_X7_sort_L221 (x1 : Int32) (v4_3 : Int32) : Nat → MSt → Int32 → Int32 → Int32 × MSt
  | 0, _, _, _ => default
  | n + 1, eS, s6, s7 => (f_X7_sort_3 v4_3 s7 s6 eS x1 (f_X7_sort_L221 x1 v4_3 n))
def f_X7_sort_5 (v4_3 : Int32) (r7 : Int32) (rec_94 : MSt → Int32 → (Int32 × MSt)) (dS : MSt) (p6 : Int32) (rec_179 : MSt → Int32 → (Int32 × MSt)) : Int32 × MSt := if v4_3 ≤ r7 then (rec_94 dS (p6 * (2 : Int32))) else (rec_179 (mset_w dS (vp_updL (mw dS) r7.toNatClampNeg (mo dS r7.toNatClampNeg))) (r7 + (1 : Int32)))
def f_X7_sort_L179 (v4_3 : Int32) (p6 : Int32) (rec_94 : MSt → Int32 → (Int32 × MSt)) : Nat → MSt → Int32 → Int32 × MSt
  | 0, _, _ => default
  | n + 1, dS, r7 => (f_X7_sort_5 v4_3 r7 rec_94 dS p6 (f_X7_sort_L179 v4_3 p6 rec_94 n))
def f_X7_sort_7 (rec_104 : MSt → Int32 → (Int32 × MSt)) (cS : MSt) (S_2 : MSt) (x1 : Int32) (x2 : Int32) (p7 : Int32) (w_11 : Int32) (w_12 : Int32) (p6 : Int32) : Int32 × MSt := (rec_104 (f_X7_merge cS (mk S_2 x1.toNatClampNeg) x2 p7 w_11 w_12) (p7 + ((2 : Int32) * p6)))
def f_X7_sort_8 (v4_3 : Int32) (p7 : Int32) (p6 : Int32) (rec_104 : MSt → Int32 → (Int32 × MSt)) (cS : MSt) (S_2 : MSt) (x1 : Int32) (x2 : Int32) (w_11 : Int32) : Int32 × MSt := if v4_3 ≤ (p7 + ((2 : Int32) * p6)) then (f_X7_sort_7 rec_104 cS S_2 x1 x2 p7 w_11 v4_3 p6) else (f_X7_sort_7 rec_104 cS S_2 x1 x2 p7 w_11 (p7 + ((2 : Int32) * p6)) p6)
def f_X7_sort_9 (v4_3 : Int32) (p7 : Int32) (p6 : Int32) (rec_104 : MSt → Int32 → (Int32 × MSt)) (cS : MSt) (S_2 : MSt) (x1 : Int32) (x2 : Int32) : Int32 × MSt := if v4_3 ≤ (p7 + p6) then (f_X7_sort_8 v4_3 p7 p6 rec_104 cS S_2 x1 x2 v4_3) else (f_X7_sort_8 v4_3 p7 p6 rec_104 cS S_2 x1 x2 (p7 + p6))
def f_X7_sort_10 (v4_3 : Int32) (p7 : Int32) (p6 : Int32) (rec_94 : MSt → Int32 → (Int32 × MSt)) (cS : MSt) (rec_104 : MSt → Int32 → (Int32 × MSt)) (S_2 : MSt) (x1 : Int32) (x2 : Int32) : Int32 × MSt := if v4_3 ≤ p7 then (f_X7_sort_L179 v4_3 p6 rec_94 501 cS (0 : Int32)) else (f_X7_sort_9 v4_3 p7 p6 rec_104 cS S_2 x1 x2)
def f_X7_sort_L104 (x1 : Int32) (x2 : Int32) (S_2 : MSt) (v4_3 : Int32) (p6 : Int32) (rec_94 : MSt → Int32 → (Int32 × MSt)) : Nat → MSt → Int32 → Int32 × MSt
  | 0, _, _ => default
  | n + 1, cS, p7 => (f_X7_sort_10 v4_3 p7 p6 rec_94 cS (f_X7_sort_L104 x1 x2 S_2 v4_3 p6 rec_94 n) S_2 x1 x2)
def f_X7_sort_12 (v4_3 : Int32) (p6 : Int32) (x1 : Int32) (bS : MSt) (x2 : Int32) (S_2 : MSt) (rec_94 : MSt → Int32 → (Int32 × MSt)) : Int32 × MSt := if v4_3 ≤ p6 then (f_X7_sort_L221 x1 v4_3 501 bS (0 : Int32) (0 : Int32)) else (f_X7_sort_L104 x1 x2 S_2 v4_3 p6 rec_94 502 bS (0 : Int32))
def f_X7_sort_L94 (x1 : Int32) (x2 : Int32) (S_2 : MSt) (v4_3 : Int32) : Nat → MSt → Int32 → Int32 × MSt
  | 0, _, _ => default
  | n + 1, bS, p6 => (f_X7_sort_12 v4_3 p6 x1 bS x2 S_2 (f_X7_sort_L94 x1 x2 S_2 v4_3 n))
def f_X7_sort_14 (v4_3 : Int32) (q6 : Int32) (x1 : Int32) (x2 : Int32) (S_2 : MSt) (aS : MSt) (rec_64 : MSt → Int32 → (Int32 × MSt)) : Int32 × MSt := if v4_3 ≤ q6 then (f_X7_sort_L94 x1 x2 S_2 v4_3 10 aS (1 : Int32)) else (rec_64 (mset_w aS (vp_updL (mw aS) q6.toNatClampNeg (f_X7_at aS x1 q6))) (q6 + (1 : Int32)))
def f_X7_sort_L64 (x1 : Int32) (x2 : Int32) (S_2 : MSt) (v4_3 : Int32) : Nat → MSt → Int32 → Int32 × MSt
  | 0, _, _ => default
  | n + 1, aS, q6 => (f_X7_sort_14 v4_3 q6 x1 x2 S_2 aS (f_X7_sort_L64 x1 x2 S_2 v4_3 n))
def f_X7_sort_16 (x1 : Int32) (x2 : Int32) (S_2 : MSt) : Int32 × MSt := (f_X7_sort_L64 x1 x2 S_2 (f_X7_size S_2 x1) 501 S_2 (0 : Int32))
def f_X7_sort_17 (p9 : Int32 × MSt) : Int32 × MSt := (p9.1, p9.2)
def f_X7_sort_18 (w_1 : Int32) (x1 : Int32) (x2 : Int32) (S : MSt) : Int32 × MSt := if w_1 ≤ 0 then (f_X7_sort_16 x1 x2 (mset_s S (0 : Int32))) else (f_X7_sort_17 (f_X7_no S w_1))
def f_X7_sort_19 (x2 : Int32) (x1 : Int32) (S : MSt) : Int32 × MSt := if x2 ≤ (2 : Int32) then (f_X7_sort_18 (0 : Int32) x1 x2 S) else (f_X7_sort_18 (2 : Int32) x1 x2 S)
def f_X7_sort_20 (x2 : Int32) (x1 : Int32) (S : MSt) : Int32 × MSt := if x2 < 0 then (f_X7_sort_18 (2 : Int32) x1 x2 S) else (f_X7_sort_19 x2 x1 S)
def f_X7_sort_21 (x1 : Int32) (S : MSt) (x2 : Int32) : Int32 × MSt := if x1 < (nI (mn S)) then (f_X7_sort_20 x2 x1 S) else (f_X7_sort_18 (1 : Int32) x1 x2 S)
def f_X7_sort_22 (x1 : Int32) (x2 : Int32) (S : MSt) : Int32 × MSt := if x1 < 0 then (f_X7_sort_18 (1 : Int32) x1 x2 S) else (f_X7_sort_21 x1 S x2)
def f_X7_sort (S : MSt) (x1 : Int32) (x2 : Int32) : Int32 × MSt := (f_X7_sort_22 x1 x2 S)
def zX7_sort : List Cond := .code yX7_sort cX7_sort 8 (some .int) :: zall
theorem iX7_sort : MWv RX7 yX7_sort (.code yX7_sort cX7_sort 8 (some .int)) := ⟨(zin__r17 (.instanceMethod yX7_sort) (List.mem_of_getElem? (i := 0) rfl)), (zin__r17 (.selects RX7 yX7_sort yX7_sort) (List.mem_of_getElem? (i := 1) rfl)), (zin__r1 (.initialized RX7) (List.mem_of_getElem? (i := 5) rfl)), (zin__r17 (.code yX7_sort cX7_sort 8 (some .int)) (List.mem_of_getElem? (i := 2) rfl))⟩
set_option maxHeartbeats 4000000 in
set_option maxRecDepth 100000 in
theorem c_X7_sort (l : Launch) (dC : Nat → ClassId) (dI : Nat → Nat → Nat) (o : Nat) (r : Nat → Nat) (cI cJ : ClassId) (sz : Nat) (S : MSt) (x1 : Int32) (x2 : Int32) (hI : mInv S) : Met l yX7_sort zX7_sort ({ frames := 5, cells := 0, slots := 0, locals := 126 }) (va_Pc [.ref o, .int x1, .int x2] (fun U => mB dC dI o r cI cJ sz S U)) (va_Qi (fun r9 S9 => (r9, S9) = f_X7_sort S x1 x2) (mE dC dI o r cI cJ (va_A (mWs o r cI cJ S) sz)) (va_A (mWs o r cI cJ S) sz)) 0 0 (va_A (mWs o r cI cJ S) sz) := by
  refine Met.ofW (cc := cX7_sort) (maxL := 8) (ret := (some .int)) (by decide) rfl ?_
  intro p e s m args below meth c s₁ B hml hv
  obtain ⟨rfl, hsz, hP, hK, hD0⟩ := hv
  have hx := B.exec
  have hb := B.bytes
  have hr := B.returns
  have hts : ∀ w ∈ zall, w.before _ s = true := fun w h => atoms_spec (ws := zX7_sort) B.pre w (List.mem_cons_of_mem _ h)
  have hown : s.vm.findClass RX7 = some m.cls := findClass_of_methodNamed B.named
  have hlocks := B.notSynchronized
  subst hsz
  have hD := hD0.self (sz := s.heap.size)
  generalize hAe : va_A (mWs o r cI cJ S) s.heap.size = A at hD ⊢
  have hA : ∀ q : Nat, s.heap.size ≤ q → A q := fun q h => by rw [← hAe]; exact Or.inr h
  have hS : va_S A s.heap s.heap [] := va_S.rf
  have hw : mH dC dI o r cI cJ S s s.heap := ⟨hP, hK⟩
  have hm := mA_of hts hw
  have hl := lv_entry ([.ref o, .int x1, .int x2]) (n := 8) (Nat.le_of_ble_eq_true rfl)
  rw [lg_entry_eq]
  generalize (lg_sl ([.ref o, .int x1, .int x2]) ++ List.replicate (8 - (lg_sl ([.ref o, .int x1, .int x2])).length) Slot.unset).toArray = ls at hl ⊢
  have hl : lv_has ls 8 [(0, .ref o), (1, .int x1), (2, .int x2)] := hl
  have hf : f_X7_sort S x1 x2 = (f_X7_sort_22 x1 x2 S) := rfl
  refine lv_iload_n hx hb dX7_sort_0 rfl (lv_at hl 1 rfl) ?_
  refine W_cut (α := Int32) (pcJ := 30) (nL := 8) (fun v => f_X7_sort S x1 x2 = (f_X7_sort_18 v x1 x2 S) ∧ (0 < v ∨ mRow S x1)) (fun v => [.int v]) (fun v => [(0, .ref o), (1, .int x1), (2, .int x2)]) (fun w_1 ls hf hl => ?_) (fun K_30 => ?_)
  · obtain ⟨hf, hI_30⟩ : f_X7_sort S x1 x2 = (f_X7_sort_18 w_1 x1 x2 S) ∧ (0 < w_1 ∨ mRow S x1) := hf
    have hf : f_X7_sort S x1 x2 = (f_X7_sort_18 w_1 x1 x2 S) := hf
    have hl : lv_has ls 8 [(0, .ref o), (1, .int x1), (2, .int x2)] := hl
    refine lv_istore_n (lv' := [(3, .int w_1), (0, .ref o), (1, .int x1), (2, .int x2)]) hx hb dX7_sort_30 rfl hl (by decide) rfl (fun ls hl => ?_)
    refine lv_iload_n hx hb dX7_sort_31 rfl (lv_at hl 0 rfl) ?_
    refine lv_if_le (tgt := 41) hx hb dX7_sort_32 (by decide) (fun c_32 => ?_) (fun c_32 => ?_)
    · have hf : f_X7_sort S x1 x2 = (f_X7_sort_16 x1 x2 (mset_s S (0 : Int32))) := hf.trans (if_pos c_32)
      have hR : mRow S x1 := (by rcases hI_30 with h | h; exact absurd c_32 (pos_nle h); exact h)
      refine lv_aload_n hx hb dX7_sort_41 rfl (lv_at hl 1 rfl) ?_
      refine lv_iconst (v := 0) hx hb dX7_sort_42 (by decide) ?_
      refine va_put (D := (dC, dI)) (ci := 5) (v := .int (0 : Int32)) (ty := .int) (C := RX7) (T := TX7) (N := 18) hx hb hts zin_X7 tyX7 tyX7_ok nmX7 hown hK hP hD hS 0 rfl rfl 17 (by decide) (hts _ (zin__r4 (.fieldLink RX7 75 "ReckonBenchModel" "status" "I") (List.mem_of_getElem? (i := 13) rfl))) (fun _ h9 => h9) rfl (by decide +kernel) rfl rfl (Nat.le_of_ble_eq_true rfl) dX7_sort_43 (fun H locs hP hD hS => ?_)
      obtain ⟨S_2, e_S_2⟩ : ∃ z : MSt, z = (mset_s S (0 : Int32)) := ⟨_, rfl⟩
      have hP : va_P (dC, dI) vwCl (mWs o r cI cJ S_2) H := by rw [e_S_2]; exact hP
      have hD : va_D A (mWs o r cI cJ S_2) := by rw [e_S_2]; exact hD
      have hw : mH dC dI o r cI cJ S_2 s H := ⟨hP, hK⟩
      have hm := mA_of hts hw
      have hI : mInv S_2 := by rw [e_S_2]; exact hI
      have hR : mRow S_2 x1 := by rw [e_S_2]; exact hR
      have hf : f_X7_sort S x1 x2 = (f_X7_sort_16 x1 x2 S_2) := hf.trans (congrArg (fun z => (f_X7_sort_16 x1 x2 z)) e_S_2.symm)
      refine lv_aload_n hx hb dX7_sort_46 rfl (lv_at hl 1 rfl) ?_
      refine lv_iload_n hx hb dX7_sort_47 rfl (lv_at hl 2 rfl) ?_
      refine vp_callSi (va_Run.run (va_runV (As := [.int x1]) (rest := []) ⟨hx, hb, hml, hown, hts⟩ (c_X7_size l dC dI o r cI cJ S_2 x1 (mRow.in1 hI hR) (mRow.in0 hI hR)) (cwV 1 hts (gV iX7_size (zin__r6 (.methodLink RX7 82 yX7_size) (List.mem_of_getElem? (i := 19) rfl))) rfl rfl rfl (by decide +kernel) ⟨Nat.le_of_ble_eq_true rfl, Nat.le_of_ble_eq_true rfl⟩) ⟨fun a U g mk q => ⟨q.1, mW_bl q.2⟩, (mW_rv hw), fun U hU hW => ⟨rfl, mW_mv hw hU hW⟩⟩ rfl rfl hl.1 rfl (lv_room (Nat.le_of_ble_eq_true rfl)) dX7_sort_48 ⟨Nat.zero_le _, Nat.zero_le _⟩)) (fun r_48 hr_48 => ?_)
      subst hr_48
      refine lv_topi (fun v4_3 e_v4_3 => ?_)
      have hf : f_X7_sort S x1 x2 = (f_X7_sort_L64 x1 x2 S_2 v4_3 501 S_2 (0 : Int32)) := hf.trans (congrArg (fun z => (f_X7_sort_L64 x1 x2 S_2 z 501 S_2 (0 : Int32))) e_v4_3.symm)
      refine lv_istore (lv' := [(4, .int v4_3), (3, .int w_1), (0, .ref o), (1, .int x1), (2, .int x2)]) hx hb dX7_sort_51 hl (by decide) rfl (fun ls hl => ?_)
      have he : v4_3 = f_X7_size S_2 x1 := e_v4_3
      have hv : ∃ w : Nat, w ≤ 500 ∧ v4_3 = nI w := size_ex hI hR he
      have hk9 : mk S_2 x1.toNatClampNeg < 2 := mRow.k hI hR
      refine lv_aload_n hx hb dX7_sort_53 rfl (lv_at hl 2 rfl) ?_
      refine va_get (D := (dC, dI)) (ci := 5) (v := .ref (r 8)) (C := RX7) (T := TX7) (N := 18) hx hb hts zin_X7 hown hK hP 0 rfl rfl 8 (by decide) (hts _ (zin__r3 (.fieldLink RX7 51 "ReckonBenchModel" "kinds" "[I") (List.mem_of_getElem? (i := 2) rfl))) (fun _ h9 => h9) rfl dX7_sort_54 ?_
      refine lv_iload_n hx hb dX7_sort_57 rfl (lv_at hl 3 rfl) ?_
      refine va_iald (f := fun j => nI (mk S_2 j)) hx hb hK hP 9 0 rfl rfl (mRow.in2 hI hR) dX7_sort_58 ?_
      refine lv_istore (lv' := [(5, .int (nI (mk S_2 x1.toNatClampNeg))), (4, .int v4_3), (3, .int w_1), (0, .ref o), (1, .int x1), (2, .int x2)]) hx hb dX7_sort_59 hl (by decide) rfl (fun ls hl => ?_)
      refine lv_iconst (v := 0) hx hb dX7_sort_61 (by decide) ?_
      refine lv_istore (lv' := [(6, .int (0 : Int32)), (5, .int (nI (mk S_2 x1.toNatClampNeg))), (4, .int v4_3), (3, .int w_1), (0, .ref o), (1, .int x1), (2, .int x2)]) hx hb dX7_sort_62 hl (by decide) rfl (fun ls hl => ?_)
      refine W_loopH (α := MSt × Int32) (pcJ := 64) (nL := 8) (fun n v H locs => f_X7_sort S x1 x2 = f_X7_sort_L64 x1 x2 S_2 v4_3 n v.1 v.2 ∧ (gInv 0 v.2 n ∧ mInv v.1 ∧ mRow v.1 x1 ∧ v4_3 = f_X7_size v.1 x1) ∧ mH dC dI o r cI cJ v.1 s H ∧ va_D A (mWs o r cI cJ v.1) ∧ va_S A s.heap H locs) (fun v => []) (fun v => [(0, .ref o), (1, .int x1), (2, .int x2), (4, .int v4_3), (5, .int (nI (mk S_2 x1.toNatClampNeg))), (6, .int v.2)]) (fun v H locs hC => ?_) (fun n_64 ih_64 v H locs ls hC hl => ?_) 501 (S_2, (0 : Int32)) _ _ ls ⟨hf, ⟨gInv.init0, hI, hR, he⟩, hw, hD, hS⟩ (lv_sub hl [4, 5, 6, 2, 1, 0] rfl)
      · obtain ⟨aS, q6⟩ := v
        have hJ : (gInv 0 q6 (0 : Nat) ∧ mInv aS ∧ mRow aS x1 ∧ v4_3 = f_X7_size aS x1) := hC.2.1
        exact gInv.zero hJ.1
      · obtain ⟨aS, q6⟩ := v
        obtain ⟨hf, hJ, hw, hD, hS⟩ : (f_X7_sort S x1 x2 = f_X7_sort_L64 x1 x2 S_2 v4_3 (n_64 + 1) aS q6) ∧ (gInv 0 q6 (Nat.succ n_64) ∧ mInv aS ∧ mRow aS x1 ∧ v4_3 = f_X7_size aS x1) ∧ mH dC dI o r cI cJ aS s H ∧ va_D A (mWs o r cI cJ aS) ∧ va_S A s.heap H locs := hC
        obtain ⟨hP, -⟩ := id hw
        have hm := mA_of hts hw
        obtain ⟨rec_64, hrec_64⟩ : ∃ z, z = f_X7_sort_L64 x1 x2 S_2 v4_3 n_64 := ⟨_, rfl⟩
        have hf : f_X7_sort S x1 x2 = (f_X7_sort_14 v4_3 q6 x1 x2 S_2 aS rec_64) := by rw [hrec_64]; exact hf
        have hl : lv_has ls 8 [(0, .ref o), (1, .int x1), (2, .int x2), (4, .int v4_3), (5, .int (nI (mk S_2 x1.toNatClampNeg))), (6, .int q6)] := hl
        have hI : mInv aS := hJ.2.1
        have hR : mRow aS x1 := hJ.2.2.1
        have he : v4_3 = f_X7_size aS x1 := hJ.2.2.2
        refine lv_iload hx hb dX7_sort_64 (lv_at hl 5 rfl) ?_
        refine lv_iload hx hb dX7_sort_66 (lv_at hl 3 rfl) ?_
        refine lv_icmp_ge (tgt := 91) hx hb dX7_sort_68 (by decide) (fun c_68 => ?_) (fun c_68 => ?_)
        · have hf : f_X7_sort S x1 x2 = (f_X7_sort_L94 x1 x2 S_2 v4_3 10 aS (1 : Int32)) := hf.trans (if_pos c_68)
          refine lv_iconst (v := 1) hx hb dX7_sort_91 (by decide) ?_
          refine lv_istore (lv' := [(6, .int (1 : Int32)), (0, .ref o), (1, .int x1), (2, .int x2), (4, .int v4_3), (5, .int (nI (mk S_2 x1.toNatClampNeg)))]) hx hb dX7_sort_92 hl (by decide) rfl (fun ls hl => ?_)
          refine W_loopH (α := MSt × Int32) (pcJ := 94) (nL := 8) (fun n v H locs => f_X7_sort S x1 x2 = f_X7_sort_L94 x1 x2 S_2 v4_3 n v.1 v.2 ∧ (wdI v.2 n ∧ mInv v.1 ∧ mRow v.1 x1 ∧ v4_3 = f_X7_size v.1 x1) ∧ mH dC dI o r cI cJ v.1 s H ∧ va_D A (mWs o r cI cJ v.1) ∧ va_S A s.heap H locs) (fun v => []) (fun v => [(0, .ref o), (1, .int x1), (2, .int x2), (4, .int v4_3), (5, .int (nI (mk S_2 x1.toNatClampNeg))), (6, .int v.2)]) (fun v H locs hC => ?_) (fun n_94 ih_94 v H locs ls hC hl => ?_) 10 (aS, (1 : Int32)) _ _ ls ⟨hf, ⟨wdI.init, hI, hR, he⟩, hw, hD, hS⟩ (lv_sub hl [1, 2, 3, 4, 5, 0] rfl)
          · obtain ⟨bS, p6⟩ := v
            have hW : (wdI p6 (0 : Nat) ∧ mInv bS ∧ mRow bS x1 ∧ v4_3 = f_X7_size bS x1) := hC.2.1
            exact wdI.zero hW.1
          · obtain ⟨bS, p6⟩ := v
            obtain ⟨hf, hW, hw, hD, hS⟩ : (f_X7_sort S x1 x2 = f_X7_sort_L94 x1 x2 S_2 v4_3 (n_94 + 1) bS p6) ∧ (wdI p6 (Nat.succ n_94) ∧ mInv bS ∧ mRow bS x1 ∧ v4_3 = f_X7_size bS x1) ∧ mH dC dI o r cI cJ bS s H ∧ va_D A (mWs o r cI cJ bS) ∧ va_S A s.heap H locs := hC
            obtain ⟨hP, -⟩ := id hw
            have hm := mA_of hts hw
            obtain ⟨rec_94, hrec_94⟩ : ∃ z, z = f_X7_sort_L94 x1 x2 S_2 v4_3 n_94 := ⟨_, rfl⟩
            have hf : f_X7_sort S x1 x2 = (f_X7_sort_12 v4_3 p6 x1 bS x2 S_2 rec_94) := by rw [hrec_94]; exact hf
            have hl : lv_has ls 8 [(0, .ref o), (1, .int x1), (2, .int x2), (4, .int v4_3), (5, .int (nI (mk S_2 x1.toNatClampNeg))), (6, .int p6)] := hl
            have hI : mInv bS := hW.2.1
            have hR : mRow bS x1 := hW.2.2.1
            have he : v4_3 = f_X7_size bS x1 := hW.2.2.2
            refine lv_iload hx hb dX7_sort_94 (lv_at hl 5 rfl) ?_
            refine lv_iload hx hb dX7_sort_96 (lv_at hl 3 rfl) ?_
            refine lv_icmp_ge (tgt := 215) hx hb dX7_sort_98 (by decide) (fun c_98 => ?_) (fun c_98 => ?_)
            · have hf : f_X7_sort S x1 x2 = (f_X7_sort_L221 x1 v4_3 501 bS (0 : Int32) (0 : Int32)) := hf.trans (if_pos c_98)
              refine lv_iconst (v := 0) hx hb dX7_sort_215 (by decide) ?_
              refine lv_istore (lv' := [(6, .int (0 : Int32)), (0, .ref o), (1, .int x1), (2, .int x2), (4, .int v4_3), (5, .int (nI (mk S_2 x1.toNatClampNeg)))]) hx hb dX7_sort_216 hl (by decide) rfl (fun ls hl => ?_)
              refine lv_iconst (v := 0) hx hb dX7_sort_218 (by decide) ?_
              refine lv_istore (lv' := [(7, .int (0 : Int32)), (6, .int (0 : Int32)), (0, .ref o), (1, .int x1), (2, .int x2), (4, .int v4_3), (5, .int (nI (mk S_2 x1.toNatClampNeg)))]) hx hb dX7_sort_219 hl (by decide) rfl (fun ls hl => ?_)
              refine W_loopH (α := MSt × Int32 × Int32) (pcJ := 221) (nL := 8) (fun n v H locs => f_X7_sort S x1 x2 = f_X7_sort_L221 x1 v4_3 n v.1 v.2.1 v.2.2 ∧ (gInv 0 v.2.2 n ∧ mInv (mZ v.1) ∧ mRow v.1 x1 ∧ v4_3 = f_X7_size v.1 x1) ∧ mH dC dI o r cI cJ v.1 s H ∧ va_D A (mWs o r cI cJ v.1) ∧ va_S A s.heap H locs) (fun v => []) (fun v => [(0, .ref o), (1, .int x1), (4, .int v4_3), (6, .int v.2.1), (7, .int v.2.2)]) (fun v H locs hC => ?_) (fun n_221 ih_221 v H locs ls hC hl => ?_) 501 (bS, (0 : Int32), (0 : Int32)) _ _ ls ⟨hf, ⟨gInv.init0, hI.s0, hR, he⟩, hw, hD, hS⟩ (lv_sub hl [2, 3, 5, 1, 0] rfl)
              · obtain ⟨eS, s6, s7⟩ := v
                have hM : (gInv 0 s7 (0 : Nat) ∧ mInv (mZ eS) ∧ mRow eS x1 ∧ v4_3 = f_X7_size eS x1) := hC.2.1
                exact gInv.zero hM.1
              · obtain ⟨eS, s6, s7⟩ := v
                obtain ⟨hf, hM, hw, hD, hS⟩ : (f_X7_sort S x1 x2 = f_X7_sort_L221 x1 v4_3 (n_221 + 1) eS s6 s7) ∧ (gInv 0 s7 (Nat.succ n_221) ∧ mInv (mZ eS) ∧ mRow eS x1 ∧ v4_3 = f_X7_size eS x1) ∧ mH dC dI o r cI cJ eS s H ∧ va_D A (mWs o r cI cJ eS) ∧ va_S A s.heap H locs := hC
                obtain ⟨hP, -⟩ := id hw
                have hm := mA_of hts hw
                obtain ⟨rec_221, hrec_221⟩ : ∃ z, z = f_X7_sort_L221 x1 v4_3 n_221 := ⟨_, rfl⟩
                have hf : f_X7_sort S x1 x2 = (f_X7_sort_3 v4_3 s7 s6 eS x1 rec_221) := by rw [hrec_221]; exact hf
                have hl : lv_has ls 8 [(0, .ref o), (1, .int x1), (4, .int v4_3), (6, .int s6), (7, .int s7)] := hl
                have hI : mInv (mZ eS) := hM.2.1
                have hR : mRow eS x1 := hM.2.2.1
                have he : v4_3 = f_X7_size eS x1 := hM.2.2.2
                refine lv_iload hx hb dX7_sort_221 (lv_at hl 4 rfl) ?_
                refine lv_iload hx hb dX7_sort_223 (lv_at hl 2 rfl) ?_
                refine lv_icmp_ge (tgt := 276) hx hb dX7_sort_225 (by decide) (fun c_225 => ?_) (fun c_225 => ?_)
                · have hf : f_X7_sort S x1 x2 = (s6, eS) := hf.trans (if_pos c_225)
                  refine lv_iload hx hb dX7_sort_276 (lv_at hl 3 rfl) ?_
                  exact W.iret hx hb hr (fun t ht hW => ⟨⟨_, eS, rfl, hf.symm, by rw [ht]; exact hP, va_K.moved hW.alike hK, hD⟩, hS.F ht⟩) hS.2.2 dX7_sort_278
                · have hf : f_X7_sort S x1 x2 = (f_X7_sort_2 eS s7 x1 rec_221 s6) := hf.trans (if_neg c_225)
                  have h7 : mPl eS x1 s7 := gInv.pl hI hR hM.1 (show ¬ f_X7_size eS x1 ≤ s7 by rw [← he]; exact c_225)
                  refine lv_aload_n hx hb dX7_sort_228 rfl (lv_at hl 0 rfl) ?_
                  refine va_get (D := (dC, dI)) (ci := 5) (v := .ref (r 10)) (C := RX7) (T := TX7) (N := 18) hx hb hts zin_X7 hown hK hP 0 rfl rfl 10 (by decide) (hts _ (zin__r3 (.fieldLink RX7 57 "ReckonBenchModel" "work" "[J") (List.mem_of_getElem? (i := 4) rfl))) (fun _ h9 => h9) rfl dX7_sort_229 ?_
                  refine lv_iload hx hb dX7_sort_232 (lv_at hl 4 rfl) ?_
                  refine va_lald (f := mw eS) hx hb hK hP 11 1 rfl rfl (mPl.in500 hI h7) dX7_sort_234 ?_
                  refine lv_aload_n hx hb dX7_sort_235 rfl (lv_at hl 0 rfl) ?_
                  refine lv_iload_n hx hb dX7_sort_236 rfl (lv_at hl 1 rfl) ?_
                  refine lv_iload hx hb dX7_sort_237 (lv_at hl 4 rfl) ?_
                  refine vp_callSl (va_Run.run (va_runV (As := [.int x1, .int s7]) (rest := [.long (mw eS s7.toNatClampNeg)]) ⟨hx, hb, hml, hown, hts⟩ (c_X7_at l dC dI o r cI cJ eS x1 s7 (mRow.in0 hI (mPl.row h7)) (mPl.at hI h7)) (cwV 2 hts (gV iX7_at (zin__r11 (.methodLink RX7 155 yX7_at) (List.mem_of_getElem? (i := 2) rfl))) rfl rfl rfl (by decide +kernel) ⟨Nat.le_of_ble_eq_true rfl, Nat.le_of_ble_eq_true rfl⟩) ⟨fun a U g mk q => ⟨q.1, mW_bl q.2⟩, (mW_rv hw), fun U hU hW => ⟨rfl, mW_mv hw hU hW⟩⟩ rfl rfl hl.1 rfl (lv_room (Nat.le_of_ble_eq_true rfl)) dX7_sort_239 ⟨Nat.zero_le _, Nat.zero_le _⟩)) (fun r_239 hr_239 => ?_)
                  subst hr_239
                  refine W.lcmp hx hb dX7_sort_242 ?_
                  refine W_cut (α := Int32) (pcJ := 249) (nL := 8) (fun v => f_X7_sort S x1 x2 = (f_X7_sort_1 rec_221 eS x1 s7 v)) (fun v => []) (fun v => [(0, .ref o), (1, .int x1), (4, .int v4_3), (6, .int v), (7, .int s7)]) (fun v6_4 ls hf hl => ?_) (fun K_249 => ?_)
                  · have hf : f_X7_sort S x1 x2 = (rec_221 (mset_b eS (vp_updL (mb eS) ((nI (mf eS x1.toNatClampNeg)) + s7).toNatClampNeg (mw eS s7.toNatClampNeg))) v6_4 (s7 + (1 : Int32))) := hf
                    have hl : lv_has ls 8 [(0, .ref o), (1, .int x1), (4, .int v4_3), (6, .int v6_4), (7, .int s7)] := hl
                    refine lv_aload_n hx hb dX7_sort_249 rfl (lv_at hl 0 rfl) ?_
                    refine va_get (D := (dC, dI)) (ci := 5) (v := .ref (r 9)) (C := RX7) (T := TX7) (N := 18) hx hb hts zin_X7 hown hK hP 0 rfl rfl 9 (by decide) (hts _ (zin__r3 (.fieldLink RX7 54 "ReckonBenchModel" "bits" "[J") (List.mem_of_getElem? (i := 3) rfl))) (fun _ h9 => h9) rfl dX7_sort_250 ?_
                    refine lv_aload_n hx hb dX7_sort_253 rfl (lv_at hl 0 rfl) ?_
                    refine va_get (D := (dC, dI)) (ci := 5) (v := .ref (r 7)) (C := RX7) (T := TX7) (N := 18) hx hb hts zin_X7 hown hK hP 0 rfl rfl 7 (by decide) (hts _ (zin__r3 (.fieldLink RX7 48 "ReckonBenchModel" "first" "[I") (List.mem_of_getElem? (i := 1) rfl))) (fun _ h9 => h9) rfl dX7_sort_254 ?_
                    refine lv_iload_n hx hb dX7_sort_257 rfl (lv_at hl 1 rfl) ?_
                    refine va_iald (f := fun j => nI (mf eS j)) hx hb hK hP 8 0 rfl rfl (mRow.in0 hI hR) dX7_sort_258 ?_
                    refine lv_iload hx hb dX7_sort_259 (lv_at hl 4 rfl) ?_
                    refine lv_iadd hx hb dX7_sort_261 ?_
                    refine lv_aload_n hx hb dX7_sort_262 rfl (lv_at hl 0 rfl) ?_
                    refine va_get (D := (dC, dI)) (ci := 5) (v := .ref (r 10)) (C := RX7) (T := TX7) (N := 18) hx hb hts zin_X7 hown hK hP 0 rfl rfl 10 (by decide) (hts _ (zin__r3 (.fieldLink RX7 57 "ReckonBenchModel" "work" "[J") (List.mem_of_getElem? (i := 4) rfl))) (fun _ h9 => h9) rfl dX7_sort_263 ?_
                    refine lv_iload hx hb dX7_sort_266 (lv_at hl 4 rfl) ?_
                    refine va_lald (f := mw eS) hx hb hK hP 11 1 rfl rfl (mPl.in500 hI h7) dX7_sort_268 ?_
                    refine va_last (f := mb eS) hx hb hK hP hD hS 10 1 rfl rfl (mPl.at hI h7) dX7_sort_269 (fun H locs hP hD hS => ?_)
                    obtain ⟨S_5, e_S_5⟩ : ∃ z : MSt, z = (mset_b eS (vp_updL (mb eS) ((nI (mf eS x1.toNatClampNeg)) + s7).toNatClampNeg (mw eS s7.toNatClampNeg))) := ⟨_, rfl⟩
                    have hP : va_P (dC, dI) vwCl (mWs o r cI cJ S_5) H := by rw [e_S_5]; exact hP
                    have hD : va_D A (mWs o r cI cJ S_5) := by rw [e_S_5]; exact hD
                    have hw : mH dC dI o r cI cJ S_5 s H := ⟨hP, hK⟩
                    have hm := mA_of hts hw
                    have hI : mInv (mZ S_5) := by rw [e_S_5]; exact hI
                    have hR : mRow S_5 x1 := by rw [e_S_5]; exact hR
                    have he : v4_3 = f_X7_size S_5 x1 := by rw [e_S_5]; exact he
                    have h7 : mPl S_5 x1 s7 := by rw [e_S_5]; exact h7
                    have hf : f_X7_sort S x1 x2 = (rec_221 S_5 v6_4 (s7 + (1 : Int32))) := hf.trans (congrArg (fun z => (rec_221 z v6_4 (s7 + (1 : Int32)))) e_S_5.symm)
                    obtain ⟨v7_6, e_v7_6⟩ : ∃ y : Int32, y = (s7 + (1 : Int32)) := ⟨_, rfl⟩
                    refine lv_iinc (v := v7_6) (lv' := [(7, .int v7_6), (0, .ref o), (1, .int x1), (4, .int v4_3), (6, .int v6_4)]) hx hb dX7_sort_270 hl (k := 4) rfl (by rw [e_v7_6]; rfl) (by decide) rfl (fun ls hl => ?_)
                    have hf : f_X7_sort S x1 x2 = (rec_221 S_5 v6_4 v7_6) := hf.trans (congrArg (fun z => (rec_221 S_5 v6_4 z)) e_v7_6.symm)
                    refine lv_goto (tgt := 221) hx hb dX7_sort_273 (by decide) ?_
                    exact ih_221 (S_5, v6_4, v7_6) _ _ ls ⟨hf.trans (congrFun (congrFun (congrFun hrec_221 _) _) _), ⟨by rw [e_v7_6]; exact gInv.next hI hM.1 h7, hI, hR, he⟩, hw, hD, hS⟩ (lv_sub hl [1, 2, 3, 4, 0] rfl)
                  refine lv_if_eq (tgt := 249) hx hb dX7_sort_243 (by decide) (fun c_243 => ?_) (fun c_243 => ?_)
                  · have c_243 : (mw eS s7.toNatClampNeg) = (f_X7_at eS x1 s7) := (lg_cmp_eq (mw eS s7.toNatClampNeg) (f_X7_at eS x1 s7)).mp c_243
                    have hf : f_X7_sort S x1 x2 = (f_X7_sort_1 rec_221 eS x1 s7 s6) := hf.trans (if_pos c_243)
                    exact K_249 s6 ls hf (lv_sub hl [0, 1, 2, 3, 4] rfl)
                  · have c_243 : ¬ ((mw eS s7.toNatClampNeg) = (f_X7_at eS x1 s7)) := fun h9 => c_243 ((lg_cmp_eq (mw eS s7.toNatClampNeg) (f_X7_at eS x1 s7)).mpr h9)
                    have hf : f_X7_sort S x1 x2 = (f_X7_sort_1 rec_221 eS x1 s7 (s6 + (1 : Int32))) := hf.trans (if_neg c_243)
                    obtain ⟨v6_7, e_v6_7⟩ : ∃ y : Int32, y = (s6 + (1 : Int32)) := ⟨_, rfl⟩
                    refine lv_iinc (v := v6_7) (lv' := [(6, .int v6_7), (0, .ref o), (1, .int x1), (4, .int v4_3), (7, .int s7)]) hx hb dX7_sort_246 hl (k := 3) rfl (by rw [e_v6_7]; rfl) (by decide) rfl (fun ls hl => ?_)
                    have hf : f_X7_sort S x1 x2 = (f_X7_sort_1 rec_221 eS x1 s7 v6_7) := hf.trans (congrArg (fun z => (f_X7_sort_1 rec_221 eS x1 s7 z)) e_v6_7.symm)
                    exact K_249 v6_7 ls hf (lv_sub hl [1, 2, 3, 0, 4] rfl)
            · have hf : f_X7_sort S x1 x2 = (f_X7_sort_L104 x1 x2 S_2 v4_3 p6 rec_94 502 bS (0 : Int32)) := hf.trans (if_neg c_98)
              refine lv_iconst (v := 0) hx hb dX7_sort_101 (by decide) ?_
              refine lv_istore (lv' := [(7, .int (0 : Int32)), (0, .ref o), (1, .int x1), (2, .int x2), (4, .int v4_3), (5, .int (nI (mk S_2 x1.toNatClampNeg))), (6, .int p6)]) hx hb dX7_sort_102 hl (by decide) rfl (fun ls hl => ?_)
              refine W_loopH (α := MSt × Int32) (pcJ := 104) (nL := 8) (fun n v H locs => f_X7_sort S x1 x2 = f_X7_sort_L104 x1 x2 S_2 v4_3 p6 rec_94 n v.1 v.2 ∧ (frI v.2 n ∧ mInv v.1 ∧ mRow v.1 x1 ∧ v4_3 = f_X7_size v.1 x1) ∧ mH dC dI o r cI cJ v.1 s H ∧ va_D A (mWs o r cI cJ v.1) ∧ va_S A s.heap H locs) (fun v => []) (fun v => [(0, .ref o), (1, .int x1), (2, .int x2), (4, .int v4_3), (5, .int (nI (mk S_2 x1.toNatClampNeg))), (6, .int p6), (7, .int v.2)]) (fun v H locs hC => ?_) (fun n_104 ih_104 v H locs ls hC hl => ?_) 502 (bS, (0 : Int32)) _ _ ls ⟨hf, ⟨frI.init, hI, hR, he⟩, hw, hD, hS⟩ (lv_sub hl [1, 2, 3, 4, 5, 6, 0] rfl)
              · obtain ⟨cS, p7⟩ := v
                have hF : (frI p7 (0 : Nat) ∧ mInv cS ∧ mRow cS x1 ∧ v4_3 = f_X7_size cS x1) := hC.2.1
                exact frI.zero hF.1
              · obtain ⟨cS, p7⟩ := v
                obtain ⟨hf, hF, hw, hD, hS⟩ : (f_X7_sort S x1 x2 = f_X7_sort_L104 x1 x2 S_2 v4_3 p6 rec_94 (n_104 + 1) cS p7) ∧ (frI p7 (Nat.succ n_104) ∧ mInv cS ∧ mRow cS x1 ∧ v4_3 = f_X7_size cS x1) ∧ mH dC dI o r cI cJ cS s H ∧ va_D A (mWs o r cI cJ cS) ∧ va_S A s.heap H locs := hC
                obtain ⟨hP, -⟩ := id hw
                have hm := mA_of hts hw
                obtain ⟨rec_104, hrec_104⟩ : ∃ z, z = f_X7_sort_L104 x1 x2 S_2 v4_3 p6 rec_94 n_104 := ⟨_, rfl⟩
                have hf : f_X7_sort S x1 x2 = (f_X7_sort_10 v4_3 p7 p6 rec_94 cS rec_104 S_2 x1 x2) := by rw [hrec_104]; exact hf
                have hl : lv_has ls 8 [(0, .ref o), (1, .int x1), (2, .int x2), (4, .int v4_3), (5, .int (nI (mk S_2 x1.toNatClampNeg))), (6, .int p6), (7, .int p7)] := hl
                have hI : mInv cS := hF.2.1
                have hR : mRow cS x1 := hF.2.2.1
                have he : v4_3 = f_X7_size cS x1 := hF.2.2.2
                refine lv_iload hx hb dX7_sort_104 (lv_at hl 6 rfl) ?_
                refine lv_iload hx hb dX7_sort_106 (lv_at hl 3 rfl) ?_
                refine lv_icmp_ge (tgt := 176) hx hb dX7_sort_108 (by decide) (fun c_108 => ?_) (fun c_108 => ?_)
                · have hf : f_X7_sort S x1 x2 = (f_X7_sort_L179 v4_3 p6 rec_94 501 cS (0 : Int32)) := hf.trans (if_pos c_108)
                  refine lv_iconst (v := 0) hx hb dX7_sort_176 (by decide) ?_
                  refine lv_istore (lv' := [(7, .int (0 : Int32)), (0, .ref o), (1, .int x1), (2, .int x2), (4, .int v4_3), (5, .int (nI (mk S_2 x1.toNatClampNeg))), (6, .int p6)]) hx hb dX7_sort_177 hl (by decide) rfl (fun ls hl => ?_)
                  refine W_loopH (α := MSt × Int32) (pcJ := 179) (nL := 8) (fun n v H locs => f_X7_sort S x1 x2 = f_X7_sort_L179 v4_3 p6 rec_94 n v.1 v.2 ∧ (gInv 0 v.2 n ∧ mInv v.1 ∧ mRow v.1 x1 ∧ v4_3 = f_X7_size v.1 x1) ∧ mH dC dI o r cI cJ v.1 s H ∧ va_D A (mWs o r cI cJ v.1) ∧ va_S A s.heap H locs) (fun v => []) (fun v => [(0, .ref o), (1, .int x1), (2, .int x2), (4, .int v4_3), (5, .int (nI (mk S_2 x1.toNatClampNeg))), (6, .int p6), (7, .int v.2)]) (fun v H locs hC => ?_) (fun n_179 ih_179 v H locs ls hC hl => ?_) 501 (cS, (0 : Int32)) _ _ ls ⟨hf, ⟨gInv.init0, hI, hR, he⟩, hw, hD, hS⟩ (lv_sub hl [1, 2, 3, 4, 5, 6, 0] rfl)
                  · obtain ⟨dS, r7⟩ := v
                    have hC : (gInv 0 r7 (0 : Nat) ∧ mInv dS ∧ mRow dS x1 ∧ v4_3 = f_X7_size dS x1) := hC.2.1
                    exact gInv.zero hC.1
                  · obtain ⟨dS, r7⟩ := v
                    obtain ⟨hf, hC, hw, hD, hS⟩ : (f_X7_sort S x1 x2 = f_X7_sort_L179 v4_3 p6 rec_94 (n_179 + 1) dS r7) ∧ (gInv 0 r7 (Nat.succ n_179) ∧ mInv dS ∧ mRow dS x1 ∧ v4_3 = f_X7_size dS x1) ∧ mH dC dI o r cI cJ dS s H ∧ va_D A (mWs o r cI cJ dS) ∧ va_S A s.heap H locs := hC
                    obtain ⟨hP, -⟩ := id hw
                    have hm := mA_of hts hw
                    obtain ⟨rec_179, hrec_179⟩ : ∃ z, z = f_X7_sort_L179 v4_3 p6 rec_94 n_179 := ⟨_, rfl⟩
                    have hf : f_X7_sort S x1 x2 = (f_X7_sort_5 v4_3 r7 rec_94 dS p6 rec_179) := by rw [hrec_179]; exact hf
                    have hl : lv_has ls 8 [(0, .ref o), (1, .int x1), (2, .int x2), (4, .int v4_3), (5, .int (nI (mk S_2 x1.toNatClampNeg))), (6, .int p6), (7, .int r7)] := hl
                    have hI : mInv dS := hC.2.1
                    have hR : mRow dS x1 := hC.2.2.1
                    have he : v4_3 = f_X7_size dS x1 := hC.2.2.2
                    refine lv_iload hx hb dX7_sort_179 (lv_at hl 6 rfl) ?_
                    refine lv_iload hx hb dX7_sort_181 (lv_at hl 3 rfl) ?_
                    refine lv_icmp_ge (tgt := 206) hx hb dX7_sort_183 (by decide) (fun c_183 => ?_) (fun c_183 => ?_)
                    · have hf : f_X7_sort S x1 x2 = (rec_94 dS (p6 * (2 : Int32))) := hf.trans (if_pos c_183)
                      refine lv_iload hx hb dX7_sort_206 (lv_at hl 5 rfl) ?_
                      refine lv_iconst (v := 2) hx hb dX7_sort_208 (by decide) ?_
                      refine lv_imul hx hb dX7_sort_209 ?_
                      refine lv_topi (fun v6_8 e_v6_8 => ?_)
                      have hf : f_X7_sort S x1 x2 = (rec_94 dS v6_8) := hf.trans (congrArg (fun z => (rec_94 dS z)) e_v6_8.symm)
                      refine lv_istore (lv' := [(6, .int v6_8), (0, .ref o), (1, .int x1), (2, .int x2), (4, .int v4_3), (5, .int (nI (mk S_2 x1.toNatClampNeg))), (7, .int r7)]) hx hb dX7_sort_210 hl (by decide) rfl (fun ls hl => ?_)
                      refine lv_goto (tgt := 94) hx hb dX7_sort_212 (by decide) ?_
                      exact ih_94 (dS, v6_8) _ _ ls ⟨hf.trans (congrFun (congrFun hrec_94 _) _), ⟨by rw [e_v6_8]; exact wdI.next2 hv hW.1 c_98, hI, hR, he⟩, hw, hD, hS⟩ (lv_sub hl [1, 2, 3, 4, 5, 0] rfl)
                    · have hf : f_X7_sort S x1 x2 = (rec_179 (mset_w dS (vp_updL (mw dS) r7.toNatClampNeg (mo dS r7.toNatClampNeg))) (r7 + (1 : Int32))) := hf.trans (if_neg c_183)
                      have h7 : mPl dS x1 r7 := gInv.pl hI hR hC.1 (by rw [← he]; exact c_183)
                      refine lv_aload_n hx hb dX7_sort_186 rfl (lv_at hl 0 rfl) ?_
                      refine va_get (D := (dC, dI)) (ci := 5) (v := .ref (r 10)) (C := RX7) (T := TX7) (N := 18) hx hb hts zin_X7 hown hK hP 0 rfl rfl 10 (by decide) (hts _ (zin__r3 (.fieldLink RX7 57 "ReckonBenchModel" "work" "[J") (List.mem_of_getElem? (i := 4) rfl))) (fun _ h9 => h9) rfl dX7_sort_187 ?_
                      refine lv_iload hx hb dX7_sort_190 (lv_at hl 6 rfl) ?_
                      refine lv_aload_n hx hb dX7_sort_192 rfl (lv_at hl 0 rfl) ?_
                      refine va_get (D := (dC, dI)) (ci := 5) (v := .ref (r 11)) (C := RX7) (T := TX7) (N := 18) hx hb hts zin_X7 hown hK hP 0 rfl rfl 11 (by decide) (hts _ (zin__r3 (.fieldLink RX7 60 "ReckonBenchModel" "other" "[J") (List.mem_of_getElem? (i := 5) rfl))) (fun _ h9 => h9) rfl dX7_sort_193 ?_
                      refine lv_iload hx hb dX7_sort_196 (lv_at hl 6 rfl) ?_
                      refine va_lald (f := mo dS) hx hb hK hP 12 1 rfl rfl (mPl.in500 hI h7) dX7_sort_198 ?_
                      refine va_last (f := mw dS) hx hb hK hP hD hS 11 1 rfl rfl (mPl.in500 hI h7) dX7_sort_199 (fun H locs hP hD hS => ?_)
                      obtain ⟨S_9, e_S_9⟩ : ∃ z : MSt, z = (mset_w dS (vp_updL (mw dS) r7.toNatClampNeg (mo dS r7.toNatClampNeg))) := ⟨_, rfl⟩
                      have hP : va_P (dC, dI) vwCl (mWs o r cI cJ S_9) H := by rw [e_S_9]; exact hP
                      have hD : va_D A (mWs o r cI cJ S_9) := by rw [e_S_9]; exact hD
                      have hw : mH dC dI o r cI cJ S_9 s H := ⟨hP, hK⟩
                      have hm := mA_of hts hw
                      have hI : mInv S_9 := by rw [e_S_9]; exact hI
                      have hR : mRow S_9 x1 := by rw [e_S_9]; exact hR
                      have he : v4_3 = f_X7_size S_9 x1 := by rw [e_S_9]; exact he
                      have h7 : mPl S_9 x1 r7 := by rw [e_S_9]; exact h7
                      have hf : f_X7_sort S x1 x2 = (rec_179 S_9 (r7 + (1 : Int32))) := hf.trans (congrArg (fun z => (rec_179 z (r7 + (1 : Int32)))) e_S_9.symm)
                      obtain ⟨v7_10, e_v7_10⟩ : ∃ y : Int32, y = (r7 + (1 : Int32)) := ⟨_, rfl⟩
                      refine lv_iinc (v := v7_10) (lv' := [(7, .int v7_10), (0, .ref o), (1, .int x1), (2, .int x2), (4, .int v4_3), (5, .int (nI (mk S_2 x1.toNatClampNeg))), (6, .int p6)]) hx hb dX7_sort_200 hl (k := 6) rfl (by rw [e_v7_10]; rfl) (by decide) rfl (fun ls hl => ?_)
                      have hf : f_X7_sort S x1 x2 = (rec_179 S_9 v7_10) := hf.trans (congrArg (fun z => (rec_179 S_9 z)) e_v7_10.symm)
                      refine lv_goto (tgt := 179) hx hb dX7_sort_203 (by decide) ?_
                      exact ih_179 (S_9, v7_10) _ _ ls ⟨hf.trans (congrFun (congrFun hrec_179 _) _), ⟨by rw [e_v7_10]; exact gInv.next hI hC.1 h7, hI, hR, he⟩, hw, hD, hS⟩ (lv_sub hl [1, 2, 3, 4, 5, 6, 0] rfl)
                · have hf : f_X7_sort S x1 x2 = (f_X7_sort_9 v4_3 p7 p6 rec_104 cS S_2 x1 x2) := hf.trans (if_neg c_108)
                  refine lv_aload_n hx hb dX7_sort_111 rfl (lv_at hl 0 rfl) ?_
                  refine lv_iload hx hb dX7_sort_112 (lv_at hl 4 rfl) ?_
                  refine lv_iload_n hx hb dX7_sort_114 rfl (lv_at hl 2 rfl) ?_
                  refine lv_iload hx hb dX7_sort_115 (lv_at hl 6 rfl) ?_
                  refine lv_iload hx hb dX7_sort_117 (lv_at hl 6 rfl) ?_
                  refine lv_iload hx hb dX7_sort_119 (lv_at hl 5 rfl) ?_
                  refine lv_iadd hx hb dX7_sort_121 ?_
                  refine lv_iload hx hb dX7_sort_122 (lv_at hl 3 rfl) ?_
                  refine W_cut (α := Int32) (pcJ := 137) (nL := 8) (fun v => f_X7_sort S x1 x2 = (f_X7_sort_8 v4_3 p7 p6 rec_104 cS S_2 x1 x2 v) ∧ (v = jminI (p7 + p6) v4_3)) (fun v => [.int v, .int p7, .int x2, .int (nI (mk S_2 x1.toNatClampNeg)), .ref o]) (fun v => [(0, .ref o), (1, .int x1), (2, .int x2), (4, .int v4_3), (5, .int (nI (mk S_2 x1.toNatClampNeg))), (6, .int p6), (7, .int p7)]) (fun w_11 ls hf hl => ?_) (fun K_137 => ?_)
                  · obtain ⟨hf, hI_137⟩ : f_X7_sort S x1 x2 = (f_X7_sort_8 v4_3 p7 p6 rec_104 cS S_2 x1 x2 w_11) ∧ (w_11 = jminI (p7 + p6) v4_3) := hf
                    have hf : f_X7_sort S x1 x2 = (f_X7_sort_8 v4_3 p7 p6 rec_104 cS S_2 x1 x2 w_11) := hf
                    have hl : lv_has ls 8 [(0, .ref o), (1, .int x1), (2, .int x2), (4, .int v4_3), (5, .int (nI (mk S_2 x1.toNatClampNeg))), (6, .int p6), (7, .int p7)] := hl
                    refine lv_iload hx hb dX7_sort_137 (lv_at hl 6 rfl) ?_
                    refine lv_iconst (v := 2) hx hb dX7_sort_139 (by decide) ?_
                    refine lv_iload hx hb dX7_sort_140 (lv_at hl 5 rfl) ?_
                    refine lv_imul hx hb dX7_sort_142 ?_
                    refine lv_iadd hx hb dX7_sort_143 ?_
                    refine lv_iload hx hb dX7_sort_144 (lv_at hl 3 rfl) ?_
                    refine W_cut (α := Int32) (pcJ := 161) (nL := 8) (fun v => f_X7_sort S x1 x2 = (f_X7_sort_7 rec_104 cS S_2 x1 x2 p7 w_11 v p6) ∧ (v = jminI (p7 + (2 : Int32) * p6) v4_3)) (fun v => [.int v, .int w_11, .int p7, .int x2, .int (nI (mk S_2 x1.toNatClampNeg)), .ref o]) (fun v => [(0, .ref o), (1, .int x1), (2, .int x2), (4, .int v4_3), (5, .int (nI (mk S_2 x1.toNatClampNeg))), (6, .int p6), (7, .int p7)]) (fun w_12 ls hf hl => ?_) (fun K_161 => ?_)
                    · obtain ⟨hf, hI_161⟩ : f_X7_sort S x1 x2 = (f_X7_sort_7 rec_104 cS S_2 x1 x2 p7 w_11 w_12 p6) ∧ (w_12 = jminI (p7 + (2 : Int32) * p6) v4_3) := hf
                      have hf : f_X7_sort S x1 x2 = (rec_104 (f_X7_merge cS (mk S_2 x1.toNatClampNeg) x2 p7 w_11 w_12) (p7 + ((2 : Int32) * p6))) := hf
                      have hl : lv_has ls 8 [(0, .ref o), (1, .int x1), (2, .int x2), (4, .int v4_3), (5, .int (nI (mk S_2 x1.toNatClampNeg))), (6, .int p6), (7, .int p7)] := hl
                      have hgM : mgP p7 w_11 w_12 500 := mgP.of2 hv hW.1 c_98 hF.1 c_108 hI_137 hI_161
                      have hFc := va_free (wc := mWs o r cI cJ cS) hD hS hA [0, 1, 2, 3, 4, 5, 6, 7, 8, 9, 10, 11, 12, 13, 14, 15, 16] rfl
                      refine va_callv (va_runV (As := [.int (nI (mk S_2 x1.toNatClampNeg)), .int x2, .int p7, .int w_11, .int w_12]) (rest := []) ⟨hx, hb, hml, hown, hts⟩ (c_X7_merge l dC dI o r cI cJ H.size cS (mk S_2 x1.toNatClampNeg) hk9 x2 p7 w_11 w_12 hgM) (cwV 5 hts (gV iX7_merge (zin__r17 (.methodLink RX7 175 yX7_merge) (List.mem_of_getElem? (i := 3) rfl))) rfl rfl rfl (by decide +kernel) ⟨Nat.le_of_ble_eq_true rfl, Nat.le_of_ble_eq_true rfl⟩) ⟨fun a U g mk q => ⟨q.1, mB_bl q.2⟩, mW_rv hw, fun U hU hW => ⟨rfl, mB_mv hw hD hU hW⟩⟩ rfl rfl hl.1 rfl (lv_room (Nat.le_of_ble_eq_true rfl)) dX7_sort_161 ⟨Nat.zero_le _, Nat.zero_le _⟩) hS (fun q _ h => hFc q h) hFc (fun S_13 t H1 locs ht hvm hw1 hB hz1 hk1 hS => ?_)
                      obtain ⟨hP, -, hD1⟩ := hB
                      rw [ht] at hP
                      have hD := hD1.weaken (fun k q _ h => hFc q.1 h)
                      generalize H1 = H at hP hS ⊢
                      have hw : mH dC dI o r cI cJ S_13 s H := ⟨hP, hK⟩
                      have hm := mA_of hts hw
                      have hf : f_X7_sort S x1 x2 = (rec_104 S_13 (p7 + ((2 : Int32) * p6))) := hf.trans (congrArg (fun z => (rec_104 z (p7 + ((2 : Int32) * p6)))) hw1.symm)
                      have hI : mInv S_13 := (by rw [show S_13 = _ from hw1]; exact merge_inv hgM hI)
                      have hR : mRow S_13 x1 := (by rw [show S_13 = _ from hw1]; exact merge_row hgM hR)
                      have he : v4_3 = f_X7_size S_13 x1 := (by rw [show S_13 = _ from hw1, merge_size hgM]; exact he)
                      refine lv_iload hx hb dX7_sort_164 (lv_at hl 6 rfl) ?_
                      refine lv_iconst (v := 2) hx hb dX7_sort_166 (by decide) ?_
                      refine lv_iload hx hb dX7_sort_167 (lv_at hl 5 rfl) ?_
                      refine lv_imul hx hb dX7_sort_169 ?_
                      refine lv_iadd hx hb dX7_sort_170 ?_
                      refine lv_topi (fun v7_14 e_v7_14 => ?_)
                      have hf : f_X7_sort S x1 x2 = (rec_104 S_13 v7_14) := hf.trans (congrArg (fun z => (rec_104 S_13 z)) e_v7_14.symm)
                      refine lv_istore (lv' := [(7, .int v7_14), (0, .ref o), (1, .int x1), (2, .int x2), (4, .int v4_3), (5, .int (nI (mk S_2 x1.toNatClampNeg))), (6, .int p6)]) hx hb dX7_sort_171 hl (by decide) rfl (fun ls hl => ?_)
                      refine lv_goto (tgt := 104) hx hb dX7_sort_173 (by decide) ?_
                      exact ih_104 (S_13, v7_14) _ _ ls ⟨hf.trans (congrFun (congrFun hrec_104 _) _), ⟨by rw [e_v7_14]; exact frI.next2 hv hW.1 c_98 hF.1 c_108, hI, hR, he⟩, hw, hD, hS⟩ (lv_sub hl [1, 2, 3, 4, 5, 6, 0] rfl)
                    refine lv_icmp_ge (tgt := 159) hx hb dX7_sort_146 (by decide) (fun c_146 => ?_) (fun c_146 => ?_)
                    · have hf : f_X7_sort S x1 x2 = (f_X7_sort_7 rec_104 cS S_2 x1 x2 p7 w_11 v4_3 p6) := hf.trans (if_pos c_146)
                      refine lv_iload hx hb dX7_sort_159 (lv_at hl 3 rfl) ?_
                      exact K_161 v4_3 ls ⟨hf, (jm1 c_146)⟩ (lv_sub hl [0, 1, 2, 3, 4, 5, 6] rfl)
                    · have hf : f_X7_sort S x1 x2 = (f_X7_sort_7 rec_104 cS S_2 x1 x2 p7 w_11 (p7 + ((2 : Int32) * p6)) p6) := hf.trans (if_neg c_146)
                      refine lv_iload hx hb dX7_sort_149 (lv_at hl 6 rfl) ?_
                      refine lv_iconst (v := 2) hx hb dX7_sort_151 (by decide) ?_
                      refine lv_iload hx hb dX7_sort_152 (lv_at hl 5 rfl) ?_
                      refine lv_imul hx hb dX7_sort_154 ?_
                      refine lv_iadd hx hb dX7_sort_155 ?_
                      refine lv_goto (tgt := 161) hx hb dX7_sort_156 (by decide) ?_
                      exact K_161 (p7 + ((2 : Int32) * p6)) ls ⟨hf, (jm2 c_146)⟩ (lv_sub hl [0, 1, 2, 3, 4, 5, 6] rfl)
                  refine lv_icmp_ge (tgt := 135) hx hb dX7_sort_124 (by decide) (fun c_124 => ?_) (fun c_124 => ?_)
                  · have hf : f_X7_sort S x1 x2 = (f_X7_sort_8 v4_3 p7 p6 rec_104 cS S_2 x1 x2 v4_3) := hf.trans (if_pos c_124)
                    refine lv_iload hx hb dX7_sort_135 (lv_at hl 3 rfl) ?_
                    exact K_137 v4_3 ls ⟨hf, (jm1 c_124)⟩ (lv_sub hl [0, 1, 2, 3, 4, 5, 6] rfl)
                  · have hf : f_X7_sort S x1 x2 = (f_X7_sort_8 v4_3 p7 p6 rec_104 cS S_2 x1 x2 (p7 + p6)) := hf.trans (if_neg c_124)
                    refine lv_iload hx hb dX7_sort_127 (lv_at hl 6 rfl) ?_
                    refine lv_iload hx hb dX7_sort_129 (lv_at hl 5 rfl) ?_
                    refine lv_iadd hx hb dX7_sort_131 ?_
                    refine lv_goto (tgt := 137) hx hb dX7_sort_132 (by decide) ?_
                    exact K_137 (p7 + p6) ls ⟨hf, (jm2 c_124)⟩ (lv_sub hl [0, 1, 2, 3, 4, 5, 6] rfl)
        · have hf : f_X7_sort S x1 x2 = (rec_64 (mset_w aS (vp_updL (mw aS) q6.toNatClampNeg (f_X7_at aS x1 q6))) (q6 + (1 : Int32))) := hf.trans (if_neg c_68)
          have h6 : mPl aS x1 q6 := gInv.pl hI hR hJ.1 (by rw [← he]; exact c_68)
          refine lv_aload_n hx hb dX7_sort_71 rfl (lv_at hl 0 rfl) ?_
          refine va_get (D := (dC, dI)) (ci := 5) (v := .ref (r 10)) (C := RX7) (T := TX7) (N := 18) hx hb hts zin_X7 hown hK hP 0 rfl rfl 10 (by decide) (hts _ (zin__r3 (.fieldLink RX7 57 "ReckonBenchModel" "work" "[J") (List.mem_of_getElem? (i := 4) rfl))) (fun _ h9 => h9) rfl dX7_sort_72 ?_
          refine lv_iload hx hb dX7_sort_75 (lv_at hl 5 rfl) ?_
          refine lv_aload_n hx hb dX7_sort_77 rfl (lv_at hl 0 rfl) ?_
          refine lv_iload_n hx hb dX7_sort_78 rfl (lv_at hl 1 rfl) ?_
          refine lv_iload hx hb dX7_sort_79 (lv_at hl 5 rfl) ?_
          refine vp_callSl (va_Run.run (va_runV (As := [.int x1, .int q6]) (rest := [.int q6, .ref (r 10)]) ⟨hx, hb, hml, hown, hts⟩ (c_X7_at l dC dI o r cI cJ aS x1 q6 (mRow.in0 hI (mPl.row h6)) (mPl.at hI h6)) (cwV 2 hts (gV iX7_at (zin__r11 (.methodLink RX7 155 yX7_at) (List.mem_of_getElem? (i := 2) rfl))) rfl rfl rfl (by decide +kernel) ⟨Nat.le_of_ble_eq_true rfl, Nat.le_of_ble_eq_true rfl⟩) ⟨fun a U g mk q => ⟨q.1, mW_bl q.2⟩, (mW_rv hw), fun U hU hW => ⟨rfl, mW_mv hw hU hW⟩⟩ rfl rfl hl.1 rfl (lv_room (Nat.le_of_ble_eq_true rfl)) dX7_sort_81 ⟨Nat.zero_le _, Nat.zero_le _⟩)) (fun r_81 hr_81 => ?_)
          subst hr_81
          refine va_last (f := mw aS) hx hb hK hP hD hS 11 1 rfl rfl (mPl.in500 hI h6) dX7_sort_84 (fun H locs hP hD hS => ?_)
          obtain ⟨S_15, e_S_15⟩ : ∃ z : MSt, z = (mset_w aS (vp_updL (mw aS) q6.toNatClampNeg (f_X7_at aS x1 q6))) := ⟨_, rfl⟩
          have hP : va_P (dC, dI) vwCl (mWs o r cI cJ S_15) H := by rw [e_S_15]; exact hP
          have hD : va_D A (mWs o r cI cJ S_15) := by rw [e_S_15]; exact hD
          have hw : mH dC dI o r cI cJ S_15 s H := ⟨hP, hK⟩
          have hm := mA_of hts hw
          have hI : mInv S_15 := by rw [e_S_15]; exact hI
          have hR : mRow S_15 x1 := by rw [e_S_15]; exact hR
          have he : v4_3 = f_X7_size S_15 x1 := by rw [e_S_15]; exact he
          have h6 : mPl S_15 x1 q6 := by rw [e_S_15]; exact h6
          have hf : f_X7_sort S x1 x2 = (rec_64 S_15 (q6 + (1 : Int32))) := hf.trans (congrArg (fun z => (rec_64 z (q6 + (1 : Int32)))) e_S_15.symm)
          obtain ⟨v6_16, e_v6_16⟩ : ∃ y : Int32, y = (q6 + (1 : Int32)) := ⟨_, rfl⟩
          refine lv_iinc (v := v6_16) (lv' := [(6, .int v6_16), (0, .ref o), (1, .int x1), (2, .int x2), (4, .int v4_3), (5, .int (nI (mk S_2 x1.toNatClampNeg)))]) hx hb dX7_sort_85 hl (k := 5) rfl (by rw [e_v6_16]; rfl) (by decide) rfl (fun ls hl => ?_)
          have hf : f_X7_sort S x1 x2 = (rec_64 S_15 v6_16) := hf.trans (congrArg (fun z => (rec_64 S_15 z)) e_v6_16.symm)
          refine lv_goto (tgt := 64) hx hb dX7_sort_88 (by decide) ?_
          exact ih_64 (S_15, v6_16) _ _ ls ⟨hf.trans (congrFun (congrFun hrec_64 _) _), ⟨by rw [e_v6_16]; exact gInv.next hI hJ.1 h6, hI, hR, he⟩, hw, hD, hS⟩ (lv_sub hl [1, 2, 3, 4, 5, 0] rfl)
    · have hf : f_X7_sort S x1 x2 = (f_X7_sort_17 (f_X7_no S w_1)) := hf.trans (if_neg c_32)
      refine lv_aload_n hx hb dX7_sort_35 rfl (lv_at hl 1 rfl) ?_
      refine lv_iload_n hx hb dX7_sort_36 rfl (lv_at hl 0 rfl) ?_
      have hFc := va_free (wc := mWs o r cI cJ S) hD hS hA [0, 1, 2, 3, 4, 5, 6, 7, 8, 9, 10, 11, 12, 13, 14, 15, 16] rfl
      refine va_calli (va_runV (As := [.int w_1]) (rest := []) ⟨hx, hb, hml, hown, hts⟩ (c_X7_no l dC dI o r cI cJ s.heap.size S w_1) (cwV 1 hts (gV iX7_no (zin__r4 (.methodLink RX7 139 yX7_no) (List.mem_of_getElem? (i := 14) rfl))) rfl rfl rfl (by decide +kernel) ⟨Nat.le_of_ble_eq_true rfl, Nat.le_of_ble_eq_true rfl⟩) ⟨fun a U g mk q => ⟨q.1, mB_bl q.2⟩, mW_rv hw, fun U hU hW => ⟨rfl, mB_mv hw hD hU hW⟩⟩ rfl rfl hl.1 rfl (lv_room (Nat.le_of_ble_eq_true rfl)) dX7_sort_37 ⟨Nat.zero_le _, Nat.zero_le _⟩) hS (fun q _ h => hFc q h) hFc (fun r_37 S_17 t H1 locs ht hvm hw1 hB hz1 hk1 hS => ?_)
      obtain ⟨hP, -, hD1⟩ := hB
      rw [ht] at hP
      have hD := hD1.weaken (fun k q _ h => hFc q.1 h)
      generalize H1 = H at hP hS ⊢
      have hw : mH dC dI o r cI cJ S_17 s H := ⟨hP, hK⟩
      have hm := mA_of hts hw
      have hf : f_X7_sort S x1 x2 = (r_37, S_17) := hf.trans (congrArg (fun z => (f_X7_sort_17 z)) hw1.symm)
      exact W.iret hx hb hr (fun t ht hW => ⟨⟨_, S_17, rfl, hf.symm, by rw [ht]; exact hP, va_K.moved hW.alike hK, hD⟩, hS.F ht⟩) hS.2.2 dX7_sort_40
  refine lv_if_lt (tgt := 12) hx hb dX7_sort_1 (by decide) (fun c_1 => ?_) (fun c_1 => ?_)
  · have hf : f_X7_sort S x1 x2 = (f_X7_sort_18 (1 : Int32) x1 x2 S) := hf.trans (if_pos c_1)
    refine lv_iconst (v := 1) hx hb dX7_sort_12 (by decide) ?_
    refine lv_goto (tgt := 30) hx hb dX7_sort_13 (by decide) ?_
    exact K_30 (1 : Int32) ls ⟨hf, (Or.inl (by decide))⟩ (lv_sub hl [0, 1, 2] rfl)
  · have hf : f_X7_sort S x1 x2 = (f_X7_sort_21 x1 S x2) := hf.trans (if_neg c_1)
    refine lv_iload_n hx hb dX7_sort_4 rfl (lv_at hl 1 rfl) ?_
    refine lv_aload_n hx hb dX7_sort_5 rfl (lv_at hl 0 rfl) ?_
    refine va_get (D := (dC, dI)) (ci := 5) (v := .int (nI (mn S))) (C := RX7) (T := TX7) (N := 18) hx hb hts zin_X7 hown hK hP 0 rfl rfl 16 (by decide) (hts _ (zin__r4 (.fieldLink RX7 79 "ReckonBenchModel" "rows" "I") (List.mem_of_getElem? (i := 12) rfl))) (fun _ h9 => h9) rfl dX7_sort_6 ?_
    refine lv_icmp_lt (tgt := 16) hx hb dX7_sort_9 (by decide) (fun c_9 => ?_) (fun c_9 => ?_)
    · have hf : f_X7_sort S x1 x2 = (f_X7_sort_20 x2 x1 S) := hf.trans (if_pos c_9)
      refine lv_iload_n hx hb dX7_sort_16 rfl (lv_at hl 2 rfl) ?_
      refine lv_if_lt (tgt := 25) hx hb dX7_sort_17 (by decide) (fun c_17 => ?_) (fun c_17 => ?_)
      · have hf : f_X7_sort S x1 x2 = (f_X7_sort_18 (2 : Int32) x1 x2 S) := hf.trans (if_pos c_17)
        refine lv_iconst (v := 2) hx hb dX7_sort_25 (by decide) ?_
        refine lv_goto (tgt := 30) hx hb dX7_sort_26 (by decide) ?_
        exact K_30 (2 : Int32) ls ⟨hf, (Or.inl (by decide))⟩ (lv_sub hl [0, 1, 2] rfl)
      · have hf : f_X7_sort S x1 x2 = (f_X7_sort_19 x2 x1 S) := hf.trans (if_neg c_17)
        refine lv_iload_n hx hb dX7_sort_20 rfl (lv_at hl 2 rfl) ?_
        refine lv_iconst (v := 2) hx hb dX7_sort_21 (by decide) ?_
        refine lv_icmp_le (tgt := 29) hx hb dX7_sort_22 (by decide) (fun c_22 => ?_) (fun c_22 => ?_)
        · have hf : f_X7_sort S x1 x2 = (f_X7_sort_18 (0 : Int32) x1 x2 S) := hf.trans (if_pos c_22)
          refine lv_iconst (v := 0) hx hb dX7_sort_29 (by decide) ?_
          exact K_30 (0 : Int32) ls ⟨hf, (Or.inr (row_of hI c_1 c_9))⟩ (lv_sub hl [0, 1, 2] rfl)
        · have hf : f_X7_sort S x1 x2 = (f_X7_sort_18 (2 : Int32) x1 x2 S) := hf.trans (if_neg c_22)
          refine lv_iconst (v := 2) hx hb dX7_sort_25 (by decide) ?_
          refine lv_goto (tgt := 30) hx hb dX7_sort_26 (by decide) ?_
          exact K_30 (2 : Int32) ls ⟨hf, (Or.inl (by decide))⟩ (lv_sub hl [0, 1, 2] rfl)
    · have hf : f_X7_sort S x1 x2 = (f_X7_sort_18 (1 : Int32) x1 x2 S) := hf.trans (if_neg c_9)
      refine lv_iconst (v := 1) hx hb dX7_sort_12 (by decide) ?_
      refine lv_goto (tgt := 30) hx hb dX7_sort_13 (by decide) ?_
      exact K_30 (1 : Int32) ls ⟨hf, (Or.inl (by decide))⟩ (lv_sub hl [0, 1, 2] rfl)
