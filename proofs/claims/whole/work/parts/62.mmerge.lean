def f_X7_merge_1 (w_1 : Int32) (rec_10 : MSt → Int32 → Int32 → Int32 → MSt) (S_3 : MSt) (q6 : Int32) (q7 : Int32) (q8 : Int32) : MSt := if w_1 = 0 then (rec_10 S_3 (q6 + (1 : Int32)) q7 (q8 + (1 : Int32))) else (rec_10 S_3 q6 (q7 + (1 : Int32)) (q8 + (1 : Int32)))
def f_X7_merge_2 (w_1 : Int32) (rec_10 : MSt → Int32 → Int32 → Int32 → MSt) (qS : MSt) (q8 : Int32) (w_2 : Int64) (q6 : Int32) (q7 : Int32) : MSt := (f_X7_merge_1 w_1 rec_10 (mset_o qS (vp_updL (mo qS) q8.toNatClampNeg w_2)) q6 q7 q8)
def f_X7_merge_3 (w_1 : Int32) (rec_10 : MSt → Int32 → Int32 → Int32 → MSt) (qS : MSt) (q8 : Int32) (q6 : Int32) (q7 : Int32) : MSt := if w_1 = 0 then (f_X7_merge_2 w_1 rec_10 qS q8 (mw qS q6.toNatClampNeg) q6 q7) else (f_X7_merge_2 w_1 rec_10 qS q8 (mw qS q7.toNatClampNeg) q6 q7)
def f_X7_merge_4 (k : Nat) (x2 : Int32) (qS : MSt) (q6 : Int32) (q7 : Int32) (rec_10 : MSt → Int32 → Int32 → Int32 → MSt) (q8 : Int32) : MSt := if (f_X7_behind k x2 (mw qS q6.toNatClampNeg) (mw qS q7.toNatClampNeg)) = 0 then (f_X7_merge_3 (0 : Int32) rec_10 qS q8 q6 q7) else (f_X7_merge_3 (1 : Int32) rec_10 qS q8 q6 q7)
def f_X7_merge_5 (x5 : Int32) (q7 : Int32) (rec_10 : MSt → Int32 → Int32 → Int32 → MSt) (qS : MSt) (q8 : Int32) (q6 : Int32) (k : Nat) (x2 : Int32) : MSt := if x5 ≤ q7 then (f_X7_merge_3 (0 : Int32) rec_10 qS q8 q6 q7) else (f_X7_merge_4 k x2 qS q6 q7 rec_10 q8)
def f_X7_merge_6 (q6 : Int32) (x4 : Int32) (rec_10 : MSt → Int32 → Int32 → Int32 → MSt) (qS : MSt) (q8 : Int32) (q7 : Int32) (x5 : Int32) (k : Nat) (x2 : Int32) : MSt := if q6 = x4 then (f_X7_merge_3 (1 : Int32) rec_10 qS q8 q6 q7) else (f_X7_merge_5 x5 q7 rec_10 qS q8 q6 k x2)
def f_X7_merge_7 (x5 : Int32) (q8 : Int32) (qS : MSt) (q6 : Int32) (x4 : Int32) (rec_10 : MSt → Int32 → Int32 → Int32 → MSt) (q7 : Int32) (k : Nat) (x2 : Int32) : MSt := if x5 ≤ q8 then qS else (f_X7_merge_6 q6 x4 rec_10 qS q8 q7 x5 k x2)
def f_X7_merge_L10 (k : Nat) (x2 : Int32) (x4 : Int32) (x5 : Int32) : Nat → MSt → Int32 → Int32 → Int32 → MSt
  | 0, _, _, _, _ => default
  | n + 1, qS, q6, q7, q8 => (f_X7_merge_7 x5 q8 qS q6 x4 (f_X7_merge_L10 k x2 x4 x5 n) q7 k x2)
def f_X7_merge (S : MSt) (k : Nat) (x2 : Int32) (x3 : Int32) (x4 : Int32) (x5 : Int32) : MSt := (f_X7_merge_L10 k x2 x4 x5 501 S x3 x4 x3)
def zX7_merge : List Cond := .code yX7_merge cX7_merge 10 none :: zall
theorem iX7_merge : MWv RX7 yX7_merge (.code yX7_merge cX7_merge 10 none) := ⟨(zin__r17 (.instanceMethod yX7_merge) (List.mem_of_getElem? (i := 4) rfl)), (zin__r17 (.selects RX7 yX7_merge yX7_merge) (List.mem_of_getElem? (i := 5) rfl)), (zin__r1 (.initialized RX7) (List.mem_of_getElem? (i := 5) rfl)), (zin__r17 (.code yX7_merge cX7_merge 10 none) (List.mem_of_getElem? (i := 6) rfl))⟩
set_option maxHeartbeats 4000000 in
set_option maxRecDepth 100000 in
theorem c_X7_merge (l : Launch) (dC : Nat → ClassId) (dI : Nat → Nat → Nat) (o : Nat) (r : Nat → Nat) (cI cJ : ClassId) (sz : Nat) (S : MSt) (k : Nat) (h_k : k < 2) (x2 : Int32) (x3 : Int32) (x4 : Int32) (x5 : Int32) (hg : mgP x3 x4 x5 500) : Met l yX7_merge zX7_merge ({ frames := 4, cells := 0, slots := 0, locals := 97 }) (va_Pc [.ref o, .int (nI k), .int x2, .int x3, .int x4, .int x5] (fun U => mB dC dI o r cI cJ sz S U)) (va_Qv (fun S9 => S9 = f_X7_merge S k x2 x3 x4 x5) (mE dC dI o r cI cJ (va_A (mWs o r cI cJ S) sz)) (va_A (mWs o r cI cJ S) sz)) 0 0 (va_A (mWs o r cI cJ S) sz) := by
  refine Met.ofW (cc := cX7_merge) (maxL := 10) (ret := none) (by decide) rfl ?_
  intro p e s m args below meth c s₁ B hml hv
  obtain ⟨rfl, hsz, hP, hK, hD0⟩ := hv
  have hx := B.exec
  have hb := B.bytes
  have hr := B.returns
  have hts : ∀ w ∈ zall, w.before _ s = true := fun w h => atoms_spec (ws := zX7_merge) B.pre w (List.mem_cons_of_mem _ h)
  have hown : s.vm.findClass RX7 = some m.cls := findClass_of_methodNamed B.named
  have hlocks := B.notSynchronized
  subst hsz
  have hD := hD0.self (sz := s.heap.size)
  generalize hAe : va_A (mWs o r cI cJ S) s.heap.size = A at hD ⊢
  have hA : ∀ q : Nat, s.heap.size ≤ q → A q := fun q h => by rw [← hAe]; exact Or.inr h
  have hS : va_S A s.heap s.heap [] := va_S.rf
  have hw : mH dC dI o r cI cJ S s s.heap := ⟨hP, hK⟩
  have hm := mA_of hts hw
  have hl := lv_entry ([.ref o, .int (nI k), .int x2, .int x3, .int x4, .int x5]) (n := 10) (Nat.le_of_ble_eq_true rfl)
  rw [lg_entry_eq]
  generalize (lg_sl ([.ref o, .int (nI k), .int x2, .int x3, .int x4, .int x5]) ++ List.replicate (10 - (lg_sl ([.ref o, .int (nI k), .int x2, .int x3, .int x4, .int x5])).length) Slot.unset).toArray = ls at hl ⊢
  have hl : lv_has ls 10 [(0, .ref o), (1, .int (nI k)), (2, .int x2), (3, .int x3), (4, .int x4), (5, .int x5)] := hl
  have hf : f_X7_merge S k x2 x3 x4 x5 = (f_X7_merge_L10 k x2 x4 x5 501 S x3 x4 x3) := rfl
  refine lv_iload_n hx hb dX7_merge_0 rfl (lv_at hl 3 rfl) ?_
  refine lv_istore (lv' := [(6, .int x3), (0, .ref o), (1, .int (nI k)), (2, .int x2), (3, .int x3), (4, .int x4), (5, .int x5)]) hx hb dX7_merge_1 hl (by decide) rfl (fun ls hl => ?_)
  refine lv_iload hx hb dX7_merge_3 (lv_at hl 5 rfl) ?_
  refine lv_istore (lv' := [(7, .int x4), (6, .int x3), (0, .ref o), (1, .int (nI k)), (2, .int x2), (3, .int x3), (4, .int x4), (5, .int x5)]) hx hb dX7_merge_5 hl (by decide) rfl (fun ls hl => ?_)
  refine lv_iload_n hx hb dX7_merge_7 rfl (lv_at hl 5 rfl) ?_
  refine lv_istore (lv' := [(8, .int x3), (7, .int x4), (6, .int x3), (0, .ref o), (1, .int (nI k)), (2, .int x2), (3, .int x3), (4, .int x4), (5, .int x5)]) hx hb dX7_merge_8 hl (by decide) rfl (fun ls hl => ?_)
  refine W_loopH (α := MSt × Int32 × Int32 × Int32) (pcJ := 10) (nL := 10) (fun n v H locs => f_X7_merge S k x2 x3 x4 x5 = f_X7_merge_L10 k x2 x4 x5 n v.1 v.2.1 v.2.2.1 v.2.2.2 ∧ (mgI x3 x4 x5 v.2.1 v.2.2.1 v.2.2.2 n) ∧ mH dC dI o r cI cJ v.1 s H ∧ va_D A (mWs o r cI cJ v.1) ∧ va_S A s.heap H locs) (fun v => []) (fun v => [(0, .ref o), (1, .int (nI k)), (2, .int x2), (4, .int x4), (5, .int x5), (6, .int v.2.1), (7, .int v.2.2.1), (8, .int v.2.2.2)]) (fun v H locs hC => ?_) (fun n_10 ih_10 v H locs ls hC hl => ?_) 501 (S, x3, x4, x3) _ _ ls ⟨hf, (mgI.init (Nat.le_refl 500) hg), hw, hD, hS⟩ (lv_sub hl [3, 4, 5, 7, 8, 2, 1, 0] rfl)
  · obtain ⟨qS, q6, q7, q8⟩ := v
    have hJ : (mgI x3 x4 x5 q6 q7 q8 (0 : Nat)) := hC.2.1
    exact mgI.zero (Nat.le_refl 500) hg hJ
  · obtain ⟨qS, q6, q7, q8⟩ := v
    obtain ⟨hf, hJ, hw, hD, hS⟩ : (f_X7_merge S k x2 x3 x4 x5 = f_X7_merge_L10 k x2 x4 x5 (n_10 + 1) qS q6 q7 q8) ∧ (mgI x3 x4 x5 q6 q7 q8 (Nat.succ n_10)) ∧ mH dC dI o r cI cJ qS s H ∧ va_D A (mWs o r cI cJ qS) ∧ va_S A s.heap H locs := hC
    obtain ⟨hP, -⟩ := id hw
    have hm := mA_of hts hw
    obtain ⟨rec_10, hrec_10⟩ : ∃ z, z = f_X7_merge_L10 k x2 x4 x5 n_10 := ⟨_, rfl⟩
    have hf : f_X7_merge S k x2 x3 x4 x5 = (f_X7_merge_7 x5 q8 qS q6 x4 rec_10 q7 k x2) := by rw [hrec_10]; exact hf
    have hl : lv_has ls 10 [(0, .ref o), (1, .int (nI k)), (2, .int x2), (4, .int x4), (5, .int x5), (6, .int q6), (7, .int q7), (8, .int q8)] := hl
    refine lv_iload hx hb dX7_merge_10 (lv_at hl 7 rfl) ?_
    refine lv_iload hx hb dX7_merge_12 (lv_at hl 4 rfl) ?_
    refine lv_icmp_ge (tgt := 110) hx hb dX7_merge_14 (by decide) (fun c_14 => ?_) (fun c_14 => ?_)
    · have hf : f_X7_merge S k x2 x3 x4 x5 = qS := hf.trans (if_pos c_14)
      exact W.vret hx hb hr (fun t ht hW => ⟨⟨qS, rfl, hf.symm, by rw [ht]; exact hP, va_K.moved hW.alike hK, hD⟩, hS.F ht⟩) hS.2.2 dX7_merge_110
    · have hf : f_X7_merge S k x2 x3 x4 x5 = (f_X7_merge_6 q6 x4 rec_10 qS q8 q7 x5 k x2) := hf.trans (if_neg c_14)
      refine lv_iload hx hb dX7_merge_17 (lv_at hl 5 rfl) ?_
      refine lv_iload hx hb dX7_merge_19 (lv_at hl 3 rfl) ?_
      refine W_cut (α := Int32) (pcJ := 59) (nL := 10) (fun v => f_X7_merge S k x2 x3 x4 x5 = (f_X7_merge_3 v rec_10 qS q8 q6 q7) ∧ ((¬ v = 0 → ¬ x5 ≤ q7) ∧ (v = 0 → ¬ x4 ≤ q6))) (fun v => [.int v]) (fun v => [(0, .ref o), (1, .int (nI k)), (2, .int x2), (4, .int x4), (5, .int x5), (6, .int q6), (7, .int q7), (8, .int q8)]) (fun w_1 ls hf hl => ?_) (fun K_59 => ?_)
      · obtain ⟨hf, hI_59⟩ : f_X7_merge S k x2 x3 x4 x5 = (f_X7_merge_3 w_1 rec_10 qS q8 q6 q7) ∧ ((¬ w_1 = 0 → ¬ x5 ≤ q7) ∧ (w_1 = 0 → ¬ x4 ≤ q6)) := hf
        have hf : f_X7_merge S k x2 x3 x4 x5 = (f_X7_merge_3 w_1 rec_10 qS q8 q6 q7) := hf
        have hl : lv_has ls 10 [(0, .ref o), (1, .int (nI k)), (2, .int x2), (4, .int x4), (5, .int x5), (6, .int q6), (7, .int q7), (8, .int q8)] := hl
        refine lv_istore (lv' := [(9, .int w_1), (0, .ref o), (1, .int (nI k)), (2, .int x2), (4, .int x4), (5, .int x5), (6, .int q6), (7, .int q7), (8, .int q8)]) hx hb dX7_merge_59 hl (by decide) rfl (fun ls hl => ?_)
        refine lv_aload_n hx hb dX7_merge_61 rfl (lv_at hl 1 rfl) ?_
        refine va_get (D := (dC, dI)) (ci := 5) (v := .ref (r 11)) (C := RX7) (T := TX7) (N := 18) hx hb hts zin_X7 hown hK hP 0 rfl rfl 11 (by decide) (hts _ (zin__r3 (.fieldLink RX7 60 "ReckonBenchModel" "other" "[J") (List.mem_of_getElem? (i := 5) rfl))) (fun _ h9 => h9) rfl dX7_merge_62 ?_
        refine lv_iload hx hb dX7_merge_65 (lv_at hl 8 rfl) ?_
        refine lv_iload hx hb dX7_merge_67 (lv_at hl 0 rfl) ?_
        refine W_cut (α := Int64) (pcJ := 89) (nL := 10) (fun v => f_X7_merge S k x2 x3 x4 x5 = (f_X7_merge_2 w_1 rec_10 qS q8 v q6 q7)) (fun v => [.long v, .int q8, .ref (r 11)]) (fun v => [(0, .ref o), (1, .int (nI k)), (2, .int x2), (4, .int x4), (5, .int x5), (6, .int q6), (7, .int q7), (8, .int q8), (9, .int w_1)]) (fun w_2 ls hf hl => ?_) (fun K_89 => ?_)
        · have hf : f_X7_merge S k x2 x3 x4 x5 = (f_X7_merge_1 w_1 rec_10 (mset_o qS (vp_updL (mo qS) q8.toNatClampNeg w_2)) q6 q7 q8) := hf
          have hl : lv_has ls 10 [(0, .ref o), (1, .int (nI k)), (2, .int x2), (4, .int x4), (5, .int x5), (6, .int q6), (7, .int q7), (8, .int q8), (9, .int w_1)] := hl
          refine va_last (f := mo qS) hx hb hK hP hD hS 12 1 rfl rfl (mgI.at9 (Nat.le_refl 500) hg hJ c_14) dX7_merge_89 (fun H locs hP hD hS => ?_)
          obtain ⟨S_3, e_S_3⟩ : ∃ z : MSt, z = (mset_o qS (vp_updL (mo qS) q8.toNatClampNeg w_2)) := ⟨_, rfl⟩
          have hP : va_P (dC, dI) vwCl (mWs o r cI cJ S_3) H := by rw [e_S_3]; exact hP
          have hD : va_D A (mWs o r cI cJ S_3) := by rw [e_S_3]; exact hD
          have hw : mH dC dI o r cI cJ S_3 s H := ⟨hP, hK⟩
          have hm := mA_of hts hw
          have hf : f_X7_merge S k x2 x3 x4 x5 = (f_X7_merge_1 w_1 rec_10 S_3 q6 q7 q8) := hf.trans (congrArg (fun z => (f_X7_merge_1 w_1 rec_10 z q6 q7 q8)) e_S_3.symm)
          refine lv_iload hx hb dX7_merge_90 (lv_at hl 8 rfl) ?_
          refine lv_if_eq (tgt := 101) hx hb dX7_merge_92 (by decide) (fun c_92 => ?_) (fun c_92 => ?_)
          · have hf : f_X7_merge S k x2 x3 x4 x5 = (rec_10 S_3 (q6 + (1 : Int32)) q7 (q8 + (1 : Int32))) := hf.trans (if_pos c_92)
            obtain ⟨v6_4, e_v6_4⟩ : ∃ y : Int32, y = (q6 + (1 : Int32)) := ⟨_, rfl⟩
            refine lv_iinc (v := v6_4) (lv' := [(6, .int v6_4), (0, .ref o), (1, .int (nI k)), (2, .int x2), (4, .int x4), (5, .int x5), (7, .int q7), (8, .int q8), (9, .int w_1)]) hx hb dX7_merge_101 hl (k := 5) rfl (by rw [e_v6_4]; rfl) (by decide) rfl (fun ls hl => ?_)
            have hf : f_X7_merge S k x2 x3 x4 x5 = (rec_10 S_3 v6_4 q7 (q8 + (1 : Int32))) := hf.trans (congrArg (fun z => (rec_10 S_3 z q7 (q8 + (1 : Int32)))) e_v6_4.symm)
            obtain ⟨v8_5, e_v8_5⟩ : ∃ y : Int32, y = (q8 + (1 : Int32)) := ⟨_, rfl⟩
            refine lv_iinc (v := v8_5) (lv' := [(8, .int v8_5), (6, .int v6_4), (0, .ref o), (1, .int (nI k)), (2, .int x2), (4, .int x4), (5, .int x5), (7, .int q7), (9, .int w_1)]) hx hb dX7_merge_104 hl (k := 7) rfl (by rw [e_v8_5]; rfl) (by decide) rfl (fun ls hl => ?_)
            have hf : f_X7_merge S k x2 x3 x4 x5 = (rec_10 S_3 v6_4 q7 v8_5) := hf.trans (congrArg (fun z => (rec_10 S_3 v6_4 q7 z)) e_v8_5.symm)
            refine lv_goto (tgt := 10) hx hb dX7_merge_107 (by decide) ?_
            exact ih_10 (S_3, v6_4, q7, v8_5) _ _ ls ⟨hf.trans (congrFun (congrFun (congrFun (congrFun hrec_10 _) _) _) _), (by rw [e_v8_5, e_v6_4]; exact mgI.left (Nat.le_refl 500) hg hJ c_14 (hI_59.2 c_92)), hw, hD, hS⟩ (lv_sub hl [2, 3, 4, 5, 6, 1, 7, 0] rfl)
          · have hf : f_X7_merge S k x2 x3 x4 x5 = (rec_10 S_3 q6 (q7 + (1 : Int32)) (q8 + (1 : Int32))) := hf.trans (if_neg c_92)
            obtain ⟨v7_6, e_v7_6⟩ : ∃ y : Int32, y = (q7 + (1 : Int32)) := ⟨_, rfl⟩
            refine lv_iinc (v := v7_6) (lv' := [(7, .int v7_6), (0, .ref o), (1, .int (nI k)), (2, .int x2), (4, .int x4), (5, .int x5), (6, .int q6), (8, .int q8), (9, .int w_1)]) hx hb dX7_merge_95 hl (k := 6) rfl (by rw [e_v7_6]; rfl) (by decide) rfl (fun ls hl => ?_)
            have hf : f_X7_merge S k x2 x3 x4 x5 = (rec_10 S_3 q6 v7_6 (q8 + (1 : Int32))) := hf.trans (congrArg (fun z => (rec_10 S_3 q6 z (q8 + (1 : Int32)))) e_v7_6.symm)
            refine lv_goto (tgt := 104) hx hb dX7_merge_98 (by decide) ?_
            obtain ⟨v8_7, e_v8_7⟩ : ∃ y : Int32, y = (q8 + (1 : Int32)) := ⟨_, rfl⟩
            refine lv_iinc (v := v8_7) (lv' := [(8, .int v8_7), (7, .int v7_6), (0, .ref o), (1, .int (nI k)), (2, .int x2), (4, .int x4), (5, .int x5), (6, .int q6), (9, .int w_1)]) hx hb dX7_merge_104 hl (k := 7) rfl (by rw [e_v8_7]; rfl) (by decide) rfl (fun ls hl => ?_)
            have hf : f_X7_merge S k x2 x3 x4 x5 = (rec_10 S_3 q6 v7_6 v8_7) := hf.trans (congrArg (fun z => (rec_10 S_3 q6 v7_6 z)) e_v8_7.symm)
            refine lv_goto (tgt := 10) hx hb dX7_merge_107 (by decide) ?_
            exact ih_10 (S_3, q6, v7_6, v8_7) _ _ ls ⟨hf.trans (congrFun (congrFun (congrFun (congrFun hrec_10 _) _) _) _), (by rw [e_v8_7, e_v7_6]; exact mgI.right (Nat.le_refl 500) hg hJ c_14 (hI_59.1 c_92)), hw, hD, hS⟩ (lv_sub hl [2, 3, 4, 5, 6, 7, 1, 0] rfl)
        refine lv_if_eq (tgt := 82) hx hb dX7_merge_69 (by decide) (fun c_69 => ?_) (fun c_69 => ?_)
        · have hf : f_X7_merge S k x2 x3 x4 x5 = (f_X7_merge_2 w_1 rec_10 qS q8 (mw qS q6.toNatClampNeg) q6 q7) := hf.trans (if_pos c_69)
          refine lv_aload_n hx hb dX7_merge_82 rfl (lv_at hl 1 rfl) ?_
          refine va_get (D := (dC, dI)) (ci := 5) (v := .ref (r 10)) (C := RX7) (T := TX7) (N := 18) hx hb hts zin_X7 hown hK hP 0 rfl rfl 10 (by decide) (hts _ (zin__r3 (.fieldLink RX7 57 "ReckonBenchModel" "work" "[J") (List.mem_of_getElem? (i := 4) rfl))) (fun _ h9 => h9) rfl dX7_merge_83 ?_
          refine lv_iload hx hb dX7_merge_86 (lv_at hl 6 rfl) ?_
          refine va_lald (f := mw qS) hx hb hK hP 11 1 rfl rfl (mgI.l hg hJ (hI_59.2 c_69)) dX7_merge_88 ?_
          exact K_89 (mw qS q6.toNatClampNeg) ls hf (lv_sub hl [1, 2, 3, 4, 5, 6, 7, 8, 0] rfl)
        · have hf : f_X7_merge S k x2 x3 x4 x5 = (f_X7_merge_2 w_1 rec_10 qS q8 (mw qS q7.toNatClampNeg) q6 q7) := hf.trans (if_neg c_69)
          refine lv_aload_n hx hb dX7_merge_72 rfl (lv_at hl 1 rfl) ?_
          refine va_get (D := (dC, dI)) (ci := 5) (v := .ref (r 10)) (C := RX7) (T := TX7) (N := 18) hx hb hts zin_X7 hown hK hP 0 rfl rfl 10 (by decide) (hts _ (zin__r3 (.fieldLink RX7 57 "ReckonBenchModel" "work" "[J") (List.mem_of_getElem? (i := 4) rfl))) (fun _ h9 => h9) rfl dX7_merge_73 ?_
          refine lv_iload hx hb dX7_merge_76 (lv_at hl 7 rfl) ?_
          refine va_lald (f := mw qS) hx hb hK hP 11 1 rfl rfl (mgI.r hg hJ (hI_59.1 c_69)) dX7_merge_78 ?_
          refine lv_goto (tgt := 89) hx hb dX7_merge_79 (by decide) ?_
          exact K_89 (mw qS q7.toNatClampNeg) ls hf (lv_sub hl [1, 2, 3, 4, 5, 6, 7, 8, 0] rfl)
      refine lv_icmp_eq (tgt := 54) hx hb dX7_merge_21 (by decide) (fun c_21 => ?_) (fun c_21 => ?_)
      · have hf : f_X7_merge S k x2 x3 x4 x5 = (f_X7_merge_3 (1 : Int32) rec_10 qS q8 q6 q7) := hf.trans (if_pos c_21)
        refine lv_iconst (v := 1) hx hb dX7_merge_54 (by decide) ?_
        refine lv_goto (tgt := 59) hx hb dX7_merge_55 (by decide) ?_
        exact K_59 (1 : Int32) ls ⟨hf, ⟨fun _ => (by first | exact mgI.e hJ c_14 c_21 | exact c_28), fun h => absurd h (by decide)⟩⟩ (lv_sub hl [0, 1, 2, 3, 4, 5, 6, 7] rfl)
      · have hf : f_X7_merge S k x2 x3 x4 x5 = (f_X7_merge_5 x5 q7 rec_10 qS q8 q6 k x2) := hf.trans (if_neg c_21)
        refine lv_iload hx hb dX7_merge_24 (lv_at hl 6 rfl) ?_
        refine lv_iload hx hb dX7_merge_26 (lv_at hl 4 rfl) ?_
        refine lv_icmp_ge (tgt := 58) hx hb dX7_merge_28 (by decide) (fun c_28 => ?_) (fun c_28 => ?_)
        · have hf : f_X7_merge S k x2 x3 x4 x5 = (f_X7_merge_3 (0 : Int32) rec_10 qS q8 q6 q7) := hf.trans (if_pos c_28)
          refine lv_iconst (v := 0) hx hb dX7_merge_58 (by decide) ?_
          exact K_59 (0 : Int32) ls ⟨hf, ⟨fun h => absurd rfl h, fun _ => mgI.ne hJ c_21⟩⟩ (lv_sub hl [0, 1, 2, 3, 4, 5, 6, 7] rfl)
        · have hf : f_X7_merge S k x2 x3 x4 x5 = (f_X7_merge_4 k x2 qS q6 q7 rec_10 q8) := hf.trans (if_neg c_28)
          refine lv_aload_n hx hb dX7_merge_31 rfl (lv_at hl 0 rfl) ?_
          refine lv_iload_n hx hb dX7_merge_32 rfl (lv_at hl 1 rfl) ?_
          refine lv_iload_n hx hb dX7_merge_33 rfl (lv_at hl 2 rfl) ?_
          refine lv_aload_n hx hb dX7_merge_34 rfl (lv_at hl 0 rfl) ?_
          refine va_get (D := (dC, dI)) (ci := 5) (v := .ref (r 10)) (C := RX7) (T := TX7) (N := 18) hx hb hts zin_X7 hown hK hP 0 rfl rfl 10 (by decide) (hts _ (zin__r3 (.fieldLink RX7 57 "ReckonBenchModel" "work" "[J") (List.mem_of_getElem? (i := 4) rfl))) (fun _ h9 => h9) rfl dX7_merge_35 ?_
          refine lv_iload hx hb dX7_merge_38 (lv_at hl 5 rfl) ?_
          refine va_lald (f := mw qS) hx hb hK hP 11 1 rfl rfl (mgI.l hg hJ (mgI.ne hJ c_21)) dX7_merge_40 ?_
          refine lv_aload_n hx hb dX7_merge_41 rfl (lv_at hl 0 rfl) ?_
          refine va_get (D := (dC, dI)) (ci := 5) (v := .ref (r 10)) (C := RX7) (T := TX7) (N := 18) hx hb hts zin_X7 hown hK hP 0 rfl rfl 10 (by decide) (hts _ (zin__r3 (.fieldLink RX7 57 "ReckonBenchModel" "work" "[J") (List.mem_of_getElem? (i := 4) rfl))) (fun _ h9 => h9) rfl dX7_merge_42 ?_
          refine lv_iload hx hb dX7_merge_45 (lv_at hl 6 rfl) ?_
          refine va_lald (f := mw qS) hx hb hK hP 11 1 rfl rfl (mgI.r hg hJ c_28) dX7_merge_47 ?_
          refine vp_callSi (va_Run.run (va_runV (As := [.int (nI k), .int x2, .long (mw qS q6.toNatClampNeg), .long (mw qS q7.toNatClampNeg)]) (rest := []) ⟨hx, hb, hml, hown, hts⟩ (c_X7_behind l o r k h_k x2 (mw qS q6.toNatClampNeg) (mw qS q7.toNatClampNeg)) (cwV 4 hts (gV iX7_behind (zin__r17 (.methodLink RX7 179 yX7_behind) (List.mem_of_getElem? (i := 7) rfl))) rfl rfl rfl (by decide +kernel) ⟨Nat.le_of_ble_eq_true rfl, Nat.le_of_ble_eq_true rfl⟩) ⟨fun a U g mk q => ⟨q.1, mU_bl q.2⟩, (mW_rv hw), fun U hU hW => ⟨rfl, mU_mvH hm hU hW⟩⟩ rfl rfl hl.1 rfl (lv_room (Nat.le_of_ble_eq_true rfl)) dX7_merge_48 ⟨Nat.zero_le _, Nat.zero_le _⟩)) (fun r_48 hr_48 => ?_)
          subst hr_48
          refine lv_if_eq (tgt := 58) hx hb dX7_merge_51 (by decide) (fun c_51 => ?_) (fun c_51 => ?_)
          · have hf : f_X7_merge S k x2 x3 x4 x5 = (f_X7_merge_3 (0 : Int32) rec_10 qS q8 q6 q7) := hf.trans (if_pos c_51)
            refine lv_iconst (v := 0) hx hb dX7_merge_58 (by decide) ?_
            exact K_59 (0 : Int32) ls ⟨hf, ⟨fun h => absurd rfl h, fun _ => mgI.ne hJ c_21⟩⟩ (lv_sub hl [0, 1, 2, 3, 4, 5, 6, 7] rfl)
          · have hf : f_X7_merge S k x2 x3 x4 x5 = (f_X7_merge_3 (1 : Int32) rec_10 qS q8 q6 q7) := hf.trans (if_neg c_51)
            refine lv_iconst (v := 1) hx hb dX7_merge_54 (by decide) ?_
            refine lv_goto (tgt := 59) hx hb dX7_merge_55 (by decide) ?_
            exact K_59 (1 : Int32) ls ⟨hf, ⟨fun _ => (by first | exact mgI.e hJ c_14 c_21 | exact c_28), fun h => absurd h (by decide)⟩⟩ (lv_sub hl [0, 1, 2, 3, 4, 5, 6, 7] rfl)
