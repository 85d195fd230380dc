def f_X4_changed_1 (a_f : Nat → Int64) (be : Nat → Int64) (q2 : Int32) (q3 : Int32) (rec_4 : Int32 → Int32 → Int32) : Int32 := if (a_f q3.toNatClampNeg) = (be q3.toNatClampNeg) then (rec_4 q2 (q3 + (1 : Int32))) else (rec_4 (q2 + (1 : Int32)) (q3 + (1 : Int32)))
def f_X4_changed_2 (a_n : Nat) (a_f : Nat → Int64) (be : Nat → Int64) (q2 : Int32) (q3 : Int32) (rec_4 : Int32 → Int32 → Int32) : Int32 := if (nI a_n) ≤ q3 then q2 else (f_X4_changed_1 a_f be q2 q3 rec_4)
def f_X4_changed_L4 (a_n : Nat) (a_f : Nat → Int64) (be : Nat → Int64) : Nat → Int32 → Int32 → Int32
  | 0, _, _ => 0
  | n + 1, q2, q3 => (f_X4_changed_2 a_n a_f be q2 q3 (f_X4_changed_L4 a_n a_f be n))
def f_X4_changed (a_n : Nat) (a_f : Nat → Int64) (be : Nat → Int64) : Int32 := (f_X4_changed_L4 a_n a_f be 501 (0 : Int32) (0 : Int32))
def zX4_changed : List Cond := .code yX4_changed cX4_changed 4 (some .int) :: zall
theorem iX4_changed : MWv RX4 yX4_changed (.code yX4_changed cX4_changed 4 (some .int)) := ⟨(zin__r16 (.instanceMethod yX4_changed) (List.mem_of_getElem? (i := 20) rfl)), (zin__r16 (.selects RX4 yX4_changed yX4_changed) (List.mem_of_getElem? (i := 21) rfl)), (zin__r1 (.initialized RX4) (List.mem_of_getElem? (i := 17) rfl)), (zin__r16 (.code yX4_changed cX4_changed 4 (some .int)) (List.mem_of_getElem? (i := 22) rfl))⟩
set_option maxHeartbeats 4000000 in
set_option maxRecDepth 100000 in
theorem c_X4_changed (l : Launch) (so ba : Nat) (be : Nat → Int64) (a a_n : Nat) (a_f : Nat → Int64) (hn : a_n ≤ 500) : Met l yX4_changed zX4_changed ({ frames := 0, cells := 0, slots := 0, locals := 0 }) (va_Pc [.ref so, .ref a] (fun U => tsU so ba be U ∧ tU a a_n a_f U)) (vp_Si (fun r => r = f_X4_changed a_n a_f be)) 0 0 (fun _ => False) := by
  refine Met.ofW (cc := cX4_changed) (maxL := 4) (ret := (some .int)) (by decide) rfl ?_
  intro p e s m args below meth c s₁ B hml hv
  obtain ⟨rfl, hbe, hr_a⟩ := hv
  have hx := B.exec
  have hb := B.bytes
  have hr := B.returns
  have hts : ∀ w ∈ zall, w.before _ s = true := fun w h => atoms_spec (ws := zX4_changed) B.pre w (List.mem_cons_of_mem _ h)
  have hown : s.vm.findClass RX4 = some m.cls := findClass_of_methodNamed B.named
  have hlocks := B.notSynchronized
  have hl := lv_entry ([.ref so, .ref a]) (n := 4) (Nat.le_of_ble_eq_true rfl)
  rw [lg_entry_eq]
  generalize (lg_sl ([.ref so, .ref a]) ++ List.replicate (4 - (lg_sl ([.ref so, .ref a])).length) Slot.unset).toArray = ls at hl ⊢
  have hl : lv_has ls 4 [(0, .ref so), (1, .ref a)] := hl
  have hf : f_X4_changed a_n a_f be = (f_X4_changed_L4 a_n a_f be 501 (0 : Int32) (0 : Int32)) := rfl
  refine lv_iconst (v := 0) hx hb dX4_changed_0 (by decide) ?_
  refine lv_istore_n (lv' := [(2, .int (0 : Int32)), (0, .ref so), (1, .ref a)]) hx hb dX4_changed_1 rfl hl (by decide) rfl (fun ls hl => ?_)
  refine lv_iconst (v := 0) hx hb dX4_changed_2 (by decide) ?_
  refine lv_istore_n (lv' := [(3, .int (0 : Int32)), (2, .int (0 : Int32)), (0, .ref so), (1, .ref a)]) hx hb dX4_changed_3 rfl hl (by decide) rfl (fun ls hl => ?_)
  refine W_loop (α := Int32 × Int32) (pcJ := 4) (nL := 4) (fun n v => f_X4_changed a_n a_f be = f_X4_changed_L4 a_n a_f be n v.1 v.2 ∧ (gInv 0 v.2 n)) (fun v => []) (fun v => [(0, .ref so), (1, .ref a), (2, .int v.1), (3, .int v.2)]) (fun v hC => ?_) (fun n_4 ih_4 v ls hC hl => ?_) 501 ((0 : Int32), (0 : Int32)) ls ⟨hf, gInv.init0⟩ (lv_sub hl [2, 3, 1, 0] rfl)
  · obtain ⟨q2, q3⟩ := v
    have hJ : (gInv 0 q3 (0 : Nat)) := hC.2
    exact gInv.zero hJ
  · obtain ⟨q2, q3⟩ := v
    obtain ⟨hf, hJ⟩ : (f_X4_changed a_n a_f be = f_X4_changed_L4 a_n a_f be (n_4 + 1) q2 q3) ∧ (gInv 0 q3 (Nat.succ n_4)) := hC
    obtain ⟨rec_4, hrec_4⟩ : ∃ z, z = f_X4_changed_L4 a_n a_f be n_4 := ⟨_, rfl⟩
    have hf : f_X4_changed a_n a_f be = (f_X4_changed_2 a_n a_f be q2 q3 rec_4) := by rw [hrec_4]; exact hf
    have hl : lv_has ls 4 [(0, .ref so), (1, .ref a), (2, .int q2), (3, .int q3)] := hl
    refine lv_iload_n hx hb dX4_changed_4 rfl (lv_at hl 3 rfl) ?_
    refine lv_aload_n hx hb dX4_changed_5 rfl (lv_at hl 1 rfl) ?_
    refine va_tlen hx hb hr_a va_S.rf (v := (nI a_n)) rfl dX4_changed_6 ?_
    refine lv_icmp_ge (tgt := 32) hx hb dX4_changed_7 (by decide) (fun c_7 => ?_) (fun c_7 => ?_)
    · have hf : f_X4_changed a_n a_f be = q2 := hf.trans (if_pos c_7)
      refine lv_iload_n hx hb dX4_changed_32 rfl (lv_at hl 2 rfl) ?_
      exact W.iret hx hb hr (fun t ht hW => ⟨_, rfl, hf.symm, ht⟩) (fun q hq => absurd hq List.not_mem_nil) dX4_changed_33
    · have hf : f_X4_changed a_n a_f be = (f_X4_changed_1 a_f be q2 q3 rec_4) := hf.trans (if_neg c_7)
      refine lv_aload_n hx hb dX4_changed_10 rfl (lv_at hl 1 rfl) ?_
      refine lv_iload_n hx hb dX4_changed_11 rfl (lv_at hl 3 rfl) ?_
      refine va_tl hx hb hr_a va_S.rf (gInv.at hn hJ c_7) (v := .long (a_f q3.toNatClampNeg)) rfl dX4_changed_12 ?_
      refine lv_aload_n hx hb dX4_changed_13 rfl (lv_at hl 0 rfl) ?_
      refine vk_getf hx hb hbe.2.1 va_S.rf hown (hts _ (zin__r2 (.fieldLink RX4 9 "ReckonBench$Sorter" "before" "[J") (List.mem_of_getElem? (i := 3) rfl))) (fun _ h9 => h9) dX4_changed_14 ?_
      refine lv_iload_n hx hb dX4_changed_17 rfl (lv_at hl 3 rfl) ?_
      refine va_tl hx hb hbe.2.2 va_S.rf (gInv.at500 hJ hn c_7) (v := .long (be q3.toNatClampNeg)) rfl dX4_changed_18 ?_
      refine W.lcmp hx hb dX4_changed_19 ?_
      refine lv_if_eq (tgt := 26) hx hb dX4_changed_20 (by decide) (fun c_20 => ?_) (fun c_20 => ?_)
      · have c_20 : (a_f q3.toNatClampNeg) = (be q3.toNatClampNeg) := (lg_cmp_eq (a_f q3.toNatClampNeg) (be q3.toNatClampNeg)).mp c_20
        have hf : f_X4_changed a_n a_f be = (rec_4 q2 (q3 + (1 : Int32))) := hf.trans (if_pos c_20)
        obtain ⟨v3_1, e_v3_1⟩ : ∃ y : Int32, y = (q3 + (1 : Int32)) := ⟨_, rfl⟩
        refine lv_iinc (v := v3_1) (lv' := [(3, .int v3_1), (0, .ref so), (1, .ref a), (2, .int q2)]) hx hb dX4_changed_26 hl (k := 3) rfl (by rw [e_v3_1]; rfl) (by decide) rfl (fun ls hl => ?_)
        have hf : f_X4_changed a_n a_f be = (rec_4 q2 v3_1) := hf.trans (congrArg (fun z => (rec_4 q2 z)) e_v3_1.symm)
        refine lv_goto (tgt := 4) hx hb dX4_changed_29 (by decide) ?_
        exact ih_4 (q2, v3_1) ls ⟨hf.trans (congrFun (congrFun hrec_4 _) _), (by rw [e_v3_1]; exact gInv.nx hn hJ c_7)⟩ (lv_sub hl [1, 2, 3, 0] rfl)
      · have c_20 : ¬ ((a_f q3.toNatClampNeg) = (be q3.toNatClampNeg)) := fun h9 => c_20 ((lg_cmp_eq (a_f q3.toNatClampNeg) (be q3.toNatClampNeg)).mpr h9)
        have hf : f_X4_changed a_n a_f be = (rec_4 (q2 + (1 : Int32)) (q3 + (1 : Int32))) := hf.trans (if_neg c_20)
        obtain ⟨v2_2, e_v2_2⟩ : ∃ y : Int32, y = (q2 + (1 : Int32)) := ⟨_, rfl⟩
        refine lv_iinc (v := v2_2) (lv' := [(2, .int v2_2), (0, .ref so), (1, .ref a), (3, .int q3)]) hx hb dX4_changed_23 hl (k := 2) rfl (by rw [e_v2_2]; rfl) (by decide) rfl (fun ls hl => ?_)
        have hf : f_X4_changed a_n a_f be = (rec_4 v2_2 (q3 + (1 : Int32))) := hf.trans (congrArg (fun z => (rec_4 z (q3 + (1 : Int32)))) e_v2_2.symm)
        obtain ⟨v3_3, e_v3_3⟩ : ∃ y : Int32, y = (q3 + (1 : Int32)) := ⟨_, rfl⟩
        refine lv_iinc (v := v3_3) (lv' := [(3, .int v3_3), (2, .int v2_2), (0, .ref so), (1, .ref a)]) hx hb dX4_changed_26 hl (k := 3) rfl (by rw [e_v3_3]; rfl) (by decide) rfl (fun ls hl => ?_)
        have hf : f_X4_changed a_n a_f be = (rec_4 v2_2 v3_3) := hf.trans (congrArg (fun z => (rec_4 v2_2 z)) e_v3_3.symm)
        refine lv_goto (tgt := 4) hx hb dX4_changed_29 (by decide) ?_
        exact ih_4 (v2_2, v3_3) ls ⟨hf.trans (congrFun (congrFun hrec_4 _) _), (by rw [e_v3_3]; exact gInv.nx hn hJ c_7)⟩ (lv_sub hl [2, 3, 1, 0] rfl)
def f_X4_merge_1 (w_1 : Int32) (rec_16 : SSt → Int32 → Int32 → Int32 → SSt) (qS : SSt) (q9 : Int32) (q8 : Int32) (q7 : Int32) : SSt := if w_1 = 0 then (rec_16 (sset_m qS (vp_updL (sm qS) q9.toNatClampNeg (sf qS q8.toNatClampNeg))) q7 (q8 + (1 : Int32)) (q9 + (1 : Int32))) else (rec_16 (sset_m qS (vp_updL (sm qS) q9.toNatClampNeg (sf qS q7.toNatClampNeg))) (q7 + (1 : Int32)) q8 (q9 + (1 : Int32)))
def f_X4_merge_2 (w_k : Nat) (x1 : Int32) (qS : SSt) (q8 : Int32) (q7 : Int32) (rec_16 : SSt → Int32 → Int32 → Int32 → SSt) (q9 : Int32) : SSt := if (f_X4_rank w_k x1 (sf qS q8.toNatClampNeg)) < (f_X4_rank w_k x1 (sf qS q7.toNatClampNeg)) then (f_X4_merge_1 (0 : Int32) rec_16 qS q9 q8 q7) else (f_X4_merge_1 (1 : Int32) rec_16 qS q9 q8 q7)
def f_X4_merge_3 (x3 : Int32) (q7 : Int32) (rec_16 : SSt → Int32 → Int32 → Int32 → SSt) (qS : SSt) (q9 : Int32) (q8 : Int32) (w_k : Nat) (x1 : Int32) : SSt := if x3 ≤ q7 then (f_X4_merge_1 (0 : Int32) rec_16 qS q9 q8 q7) else (f_X4_merge_2 w_k x1 qS q8 q7 rec_16 q9)
def f_X4_merge_4 (x4 : Int32) (q8 : Int32) (rec_16 : SSt → Int32 → Int32 → Int32 → SSt) (qS : SSt) (q9 : Int32) (q7 : Int32) (x3 : Int32) (w_k : Nat) (x1 : Int32) : SSt := if x4 ≤ q8 then (f_X4_merge_1 (1 : Int32) rec_16 qS q9 q8 q7) else (f_X4_merge_3 x3 q7 rec_16 qS q9 q8 w_k x1)
def f_X4_merge_5 (x4 : Int32) (q9 : Int32) (qS : SSt) (q8 : Int32) (rec_16 : SSt → Int32 → Int32 → Int32 → SSt) (q7 : Int32) (x3 : Int32) (w_k : Nat) (x1 : Int32) : SSt := if x4 ≤ q9 then qS else (f_X4_merge_4 x4 q8 rec_16 qS q9 q7 x3 w_k x1)
def f_X4_merge_L16 (w_k : Nat) (x1 : Int32) (x3 : Int32) (x4 : Int32) : Nat → SSt → Int32 → Int32 → Int32 → SSt
  | 0, _, _, _, _ => default
  | n + 1, qS, q7, q8, q9 => (f_X4_merge_5 x4 q9 qS q8 (f_X4_merge_L16 w_k x1 x3 x4 n) q7 x3 w_k x1)
def f_X4_merge (S : SSt) (w_k : Nat) (w_n : Nat) (x1 : Int32) (x2 : Int32) (x3 : Int32) (x4 : Int32) : SSt := (f_X4_merge_L16 w_k x1 x3 x4 501 S x2 x3 x2)
def zX4_merge : List Cond := .code yX4_merge cX4_merge 11 none :: zall
theorem iX4_merge : MWv RX4 yX4_merge (.code yX4_merge cX4_merge 11 none) := ⟨(zin__r16 (.instanceMethod yX4_merge) (List.mem_of_getElem? (i := 10) rfl)), (zin__r16 (.selects RX4 yX4_merge yX4_merge) (List.mem_of_getElem? (i := 11) rfl)), (zin__r1 (.initialized RX4) (List.mem_of_getElem? (i := 17) rfl)), (zin__r16 (.code yX4_merge cX4_merge 11 none) (List.mem_of_getElem? (i := 12) rfl))⟩
set_option maxHeartbeats 4000000 in
set_option maxRecDepth 100000 in
theorem c_X4_merge (l : Launch) (dC : Nat → ClassId) (dI : Nat → Nat → Nat) (ad : Nat → Nat) (w w_k w_na w_n : Nat) (h_w_k : w_k < 2) (so ba ma : Nat) (cJ : ClassId) (sz : Nat) (S : SSt) (x1 : Int32) (x2 : Int32) (x3 : Int32) (x4 : Int32) (hn : w_n ≤ 500) (hg : mgP x2 x3 x4 w_n) : Met l yX4_merge zX4_merge ({ frames := 3, cells := 0, slots := 0, locals := 67 }) (va_Pc [.ref so, .ref w, .int x1, .int x2, .int x3, .int x4] (fun U => sB dC dI ad w w_k w_na w_n so ba ma cJ sz S U)) (va_Qv (fun S9 => S9 = f_X4_merge S w_k w_n x1 x2 x3 x4) (sE dC dI ad w w_k w_na w_n so ba ma cJ (va_A (sWs ad w w_k w_na w_n so ba ma cJ S) sz)) (va_A (sWs ad w w_k w_na w_n so ba ma cJ S) sz)) 0 0 (va_A (sWs ad w w_k w_na w_n so ba ma cJ S) sz) := by
  refine Met.ofW (cc := cX4_merge) (maxL := 11) (ret := none) (by decide) rfl ?_
  intro p e s m args below meth c s₁ B hml hv
  obtain ⟨rfl, hsz, hP, hK, hD0, hkA⟩ := hv
  have hx := B.exec
  have hb := B.bytes
  have hr := B.returns
  have hts : ∀ w ∈ zall, w.before _ s = true := fun w h => atoms_spec (ws := zX4_merge) B.pre w (List.mem_cons_of_mem _ h)
  have hown : s.vm.findClass RX4 = some m.cls := findClass_of_methodNamed B.named
  have hlocks := B.notSynchronized
  subst hsz
  have hD := hD0.self (sz := s.heap.size)
  generalize hAe : va_A (sWs ad w w_k w_na w_n so ba ma cJ S) s.heap.size = A at hD hkA ⊢
  have hA : ∀ q : Nat, s.heap.size ≤ q → A q := fun q h => by rw [← hAe]; exact Or.inr h
  have hS : va_S A s.heap s.heap [] := va_S.rf
  have hw : sH dC dI ad w w_k w_na w_n so ba ma cJ S s s.heap := ⟨hP, hK⟩
  have hk := kA_at hkA hS
  have hr_w := sR_of hts hw
  have hbe := sT_of hts hw
  have hl := lv_entry ([.ref so, .ref w, .int x1, .int x2, .int x3, .int x4]) (n := 11) (Nat.le_of_ble_eq_true rfl)
  rw [lg_entry_eq]
  generalize (lg_sl ([.ref so, .ref w, .int x1, .int x2, .int x3, .int x4]) ++ List.replicate (11 - (lg_sl ([.ref so, .ref w, .int x1, .int x2, .int x3, .int x4])).length) Slot.unset).toArray = ls at hl ⊢
  have hl : lv_has ls 11 [(0, .ref so), (1, .ref w), (2, .int x1), (3, .int x2), (4, .int x3), (5, .int x4)] := hl
  have hf : f_X4_merge S w_k w_n x1 x2 x3 x4 = (f_X4_merge_L16 w_k x1 x3 x4 501 S x2 x3 x2) := rfl
  refine lv_aload_n hx hb dX4_merge_0 rfl (lv_at hl 1 rfl) ?_
  refine gf_H hx hb hr_w.2.2.1 hown (hts _ (zin__r16 (.fieldLink RX4 18 "ReckonBench$Row" "numbers" "[J") (List.mem_of_getElem? (i := 3) rfl))) (fun _ h9 => h9) dX4_merge_1 ?_
  refine lv_astore (lv' := [(6, .ref w_na), (0, .ref so), (1, .ref w), (2, .int x1), (3, .int x2), (4, .int x3), (5, .int x4)]) hx hb dX4_merge_4 hl (by decide) rfl (fun ls hl => ?_)
  refine lv_iload_n hx hb dX4_merge_6 rfl (lv_at hl 4 rfl) ?_
  refine lv_istore (lv' := [(7, .int x2), (6, .ref w_na), (0, .ref so), (1, .ref w), (2, .int x1), (3, .int x2), (4, .int x3), (5, .int x4)]) hx hb dX4_merge_7 hl (by decide) rfl (fun ls hl => ?_)
  refine lv_iload hx hb dX4_merge_9 (lv_at hl 6 rfl) ?_
  refine lv_istore (lv' := [(8, .int x3), (7, .int x2), (6, .ref w_na), (0, .ref so), (1, .ref w), (2, .int x1), (3, .int x2), (4, .int x3), (5, .int x4)]) hx hb dX4_merge_11 hl (by decide) rfl (fun ls hl => ?_)
  refine lv_iload_n hx hb dX4_merge_13 rfl (lv_at hl 6 rfl) ?_
  refine lv_istore (lv' := [(9, .int x2), (8, .int x3), (7, .int x2), (6, .ref w_na), (0, .ref so), (1, .ref w), (2, .int x1), (3, .int x2), (4, .int x3), (5, .int x4)]) hx hb dX4_merge_14 hl (by decide) rfl (fun ls hl => ?_)
  refine W_loopH (α := SSt × Int32 × Int32 × Int32) (pcJ := 16) (nL := 11) (fun n v H locs => f_X4_merge S w_k w_n x1 x2 x3 x4 = f_X4_merge_L16 w_k x1 x3 x4 n v.1 v.2.1 v.2.2.1 v.2.2.2 ∧ (mgI x2 x3 x4 v.2.1 v.2.2.1 v.2.2.2 n) ∧ sH dC dI ad w w_k w_na w_n so ba ma cJ v.1 s H ∧ va_D A (sWs ad w w_k w_na w_n so ba ma cJ v.1) ∧ va_S A s.heap H locs) (fun v => []) (fun v => [(0, .ref so), (1, .ref w), (2, .int x1), (4, .int x3), (5, .int x4), (6, .ref w_na), (7, .int v.2.1), (8, .int v.2.2.1), (9, .int v.2.2.2)]) (fun v H locs hC => ?_) (fun n_16 ih_16 v H locs ls hC hl => ?_) 501 (S, x2, x3, x2) _ _ ls ⟨hf, (mgI.init hn hg), hw, hD, hS⟩ (lv_sub hl [4, 5, 6, 8, 9, 3, 2, 1, 0] rfl)
  · obtain ⟨qS, q7, q8, q9⟩ := v
    have hJ : (mgI x2 x3 x4 q7 q8 q9 (0 : Nat)) := hC.2.1
    exact mgI.zero hn hg hJ
  · obtain ⟨qS, q7, q8, q9⟩ := v
    obtain ⟨hf, hJ, hw, hD, hS⟩ : (f_X4_merge S w_k w_n x1 x2 x3 x4 = f_X4_merge_L16 w_k x1 x3 x4 (n_16 + 1) qS q7 q8 q9) ∧ (mgI x2 x3 x4 q7 q8 q9 (Nat.succ n_16)) ∧ sH dC dI ad w w_k w_na w_n so ba ma cJ qS s H ∧ va_D A (sWs ad w w_k w_na w_n so ba ma cJ qS) ∧ va_S A s.heap H locs := hC
    obtain ⟨hP, -⟩ := id hw
    have hk := kA_at hkA hS
    have hr_w := sR_of hts hw
    have hbe := sT_of hts hw
    obtain ⟨rec_16, hrec_16⟩ : ∃ z, z = f_X4_merge_L16 w_k x1 x3 x4 n_16 := ⟨_, rfl⟩
    have hf : f_X4_merge S w_k w_n x1 x2 x3 x4 = (f_X4_merge_5 x4 q9 qS q8 rec_16 q7 x3 w_k x1) := by rw [hrec_16]; exact hf
    have hl : lv_has ls 11 [(0, .ref so), (1, .ref w), (2, .int x1), (4, .int x3), (5, .int x4), (6, .ref w_na), (7, .int q7), (8, .int q8), (9, .int q9)] := hl
    refine lv_iload hx hb dX4_merge_16 (lv_at hl 8 rfl) ?_
    refine lv_iload hx hb dX4_merge_18 (lv_at hl 4 rfl) ?_
    refine lv_icmp_ge (tgt := 118) hx hb dX4_merge_20 (by decide) (fun c_20 => ?_) (fun c_20 => ?_)
    · have hf : f_X4_merge S w_k w_n x1 x2 x3 x4 = qS := hf.trans (if_pos c_20)
      exact W.vret hx hb hr (fun t ht hW => ⟨⟨qS, rfl, hf.symm, by rw [ht]; exact hP, va_K.moved hW.alike hK, hD⟩, hS.F ht⟩) hS.2.2 dX4_merge_118
    · have hf : f_X4_merge S w_k w_n x1 x2 x3 x4 = (f_X4_merge_4 x4 q8 rec_16 qS q9 q7 x3 w_k x1) := hf.trans (if_neg c_20)
      refine lv_iload hx hb dX4_merge_23 (lv_at hl 7 rfl) ?_
      refine lv_iload hx hb dX4_merge_25 (lv_at hl 4 rfl) ?_
      refine W_cut (α := Int32) (pcJ := 72) (nL := 11) (fun v => f_X4_merge S w_k w_n x1 x2 x3 x4 = (f_X4_merge_1 v rec_16 qS q9 q8 q7) ∧ ((¬ v = 0 → ¬ x3 ≤ q7) ∧ (v = 0 → ¬ x4 ≤ q8))) (fun v => [.int v]) (fun v => [(0, .ref so), (1, .ref w), (2, .int x1), (4, .int x3), (5, .int x4), (6, .ref w_na), (7, .int q7), (8, .int q8), (9, .int q9)]) (fun w_1 ls hf hl => ?_) (fun K_72 => ?_)
      · obtain ⟨hf, hI_72⟩ : f_X4_merge S w_k w_n x1 x2 x3 x4 = (f_X4_merge_1 w_1 rec_16 qS q9 q8 q7) ∧ ((¬ w_1 = 0 → ¬ x3 ≤ q7) ∧ (w_1 = 0 → ¬ x4 ≤ q8)) := hf
        have hf : f_X4_merge S w_k w_n x1 x2 x3 x4 = (f_X4_merge_1 w_1 rec_16 qS q9 q8 q7) := hf
        have hl : lv_has ls 11 [(0, .ref so), (1, .ref w), (2, .int x1), (4, .int x3), (5, .int x4), (6, .ref w_na), (7, .int q7), (8, .int q8), (9, .int q9)] := hl
        refine lv_istore (lv' := [(10, .int w_1), (0, .ref so), (1, .ref w), (2, .int x1), (4, .int x3), (5, .int x4), (6, .ref w_na), (7, .int q7), (8, .int q8), (9, .int q9)]) hx hb dX4_merge_72 hl (by decide) rfl (fun ls hl => ?_)
        refine lv_iload hx hb dX4_merge_74 (lv_at hl 0 rfl) ?_
        refine lv_if_eq (tgt := 97) hx hb dX4_merge_76 (by decide) (fun c_76 => ?_) (fun c_76 => ?_)
        · have hf : f_X4_merge S w_k w_n x1 x2 x3 x4 = (rec_16 (sset_m qS (vp_updL (sm qS) q9.toNatClampNeg (sf qS q8.toNatClampNeg))) q7 (q8 + (1 : Int32)) (q9 + (1 : Int32))) := hf.trans (if_pos c_76)
          refine lv_aload_n hx hb dX4_merge_97 rfl (lv_at hl 1 rfl) ?_
          refine va_get (D := (dC, dI)) (ci := 3) (v := .ref ma) (C := RX4) (T := TX4) (N := 2) hx hb hts zin_X4 hown hK hP 0 rfl rfl 1 (by decide) (hts _ (zin__r2 (.fieldLink RX4 15 "ReckonBench$Sorter" "merged" "[J") (List.mem_of_getElem? (i := 4) rfl))) (fun _ h9 => h9) rfl dX4_merge_98 ?_
          refine lv_iload hx hb dX4_merge_101 (lv_at hl 9 rfl) ?_
          refine lv_aload hx hb dX4_merge_103 (lv_at hl 6 rfl) ?_
          refine lv_iload hx hb dX4_merge_105 (lv_at hl 8 rfl) ?_
          refine va_lald (f := sf qS) hx hb hK hP 4 0 rfl rfl (mgI.r hg hJ (hI_72.2 c_76)) dX4_merge_107 ?_
          refine va_last (f := sm qS) hx hb hK hP hD hS 2 0 rfl rfl (mgI.at9 hn hg hJ c_20) dX4_merge_108 (fun H locs hP hD hS => ?_)
          obtain ⟨S_2, e_S_2⟩ : ∃ z : SSt, z = (sset_m qS (vp_updL (sm qS) q9.toNatClampNeg (sf qS q8.toNatClampNeg))) := ⟨_, rfl⟩
          have hP : va_P (dC, dI) vwCl (sWs ad w w_k w_na w_n so ba ma cJ S_2) H := by rw [e_S_2]; exact hP
          have hD : va_D A (sWs ad w w_k w_na w_n so ba ma cJ S_2) := by rw [e_S_2]; exact hD
          have hw : sH dC dI ad w w_k w_na w_n so ba ma cJ S_2 s H := ⟨hP, hK⟩
          have hk := kA_at hkA hS
          have hr_w := sR_of hts hw
          have hbe := sT_of hts hw
          have hf : f_X4_merge S w_k w_n x1 x2 x3 x4 = (rec_16 S_2 q7 (q8 + (1 : Int32)) (q9 + (1 : Int32))) := hf.trans (congrArg (fun z => (rec_16 z q7 (q8 + (1 : Int32)) (q9 + (1 : Int32)))) e_S_2.symm)
          obtain ⟨v8_3, e_v8_3⟩ : ∃ y : Int32, y = (q8 + (1 : Int32)) := ⟨_, rfl⟩
          refine lv_iinc (v := v8_3) (lv' := [(8, .int v8_3), (10, .int w_1), (0, .ref so), (1, .ref w), (2, .int x1), (4, .int x3), (5, .int x4), (6, .ref w_na), (7, .int q7), (9, .int q9)]) hx hb dX4_merge_109 hl (k := 8) rfl (by rw [e_v8_3]; rfl) (by decide) rfl (fun ls hl => ?_)
          have hf : f_X4_merge S w_k w_n x1 x2 x3 x4 = (rec_16 S_2 q7 v8_3 (q9 + (1 : Int32))) := hf.trans (congrArg (fun z => (rec_16 S_2 q7 z (q9 + (1 : Int32)))) e_v8_3.symm)
          obtain ⟨v9_4, e_v9_4⟩ : ∃ y : Int32, y = (q9 + (1 : Int32)) := ⟨_, rfl⟩
          refine lv_iinc (v := v9_4) (lv' := [(9, .int v9_4), (8, .int v8_3), (10, .int w_1), (0, .ref so), (1, .ref w), (2, .int x1), (4, .int x3), (5, .int x4), (6, .ref w_na), (7, .int q7)]) hx hb dX4_merge_112 hl (k := 9) rfl (by rw [e_v9_4]; rfl) (by decide) rfl (fun ls hl => ?_)
          have hf : f_X4_merge S w_k w_n x1 x2 x3 x4 = (rec_16 S_2 q7 v8_3 v9_4) := hf.trans (congrArg (fun z => (rec_16 S_2 q7 v8_3 z)) e_v9_4.symm)
          refine lv_goto (tgt := 16) hx hb dX4_merge_115 (by decide) ?_
          exact ih_16 (S_2, q7, v8_3, v9_4) _ _ ls ⟨hf.trans (congrFun (congrFun (congrFun (congrFun hrec_16 _) _) _) _), (by rw [e_v9_4, e_v8_3]; exact mgI.right hn hg hJ c_20 (hI_72.2 c_76)), hw, hD, hS⟩ (lv_sub hl [3, 4, 5, 6, 7, 8, 9, 1, 0] rfl)
        · have hf : f_X4_merge S w_k w_n x1 x2 x3 x4 = (rec_16 (sset_m qS (vp_updL (sm qS) q9.toNatClampNeg (sf qS q7.toNatClampNeg))) (q7 + (1 : Int32)) q8 (q9 + (1 : Int32))) := hf.trans (if_neg c_76)
          refine lv_aload_n hx hb dX4_merge_79 rfl (lv_at hl 1 rfl) ?_
          refine va_get (D := (dC, dI)) (ci := 3) (v := .ref ma) (C := RX4) (T := TX4) (N := 2) hx hb hts zin_X4 hown hK hP 0 rfl rfl 1 (by decide) (hts _ (zin__r2 (.fieldLink RX4 15 "ReckonBench$Sorter" "merged" "[J") (List.mem_of_getElem? (i := 4) rfl))) (fun _ h9 => h9) rfl dX4_merge_80 ?_
          refine lv_iload hx hb dX4_merge_83 (lv_at hl 9 rfl) ?_
          refine lv_aload hx hb dX4_merge_85 (lv_at hl 6 rfl) ?_
          refine lv_iload hx hb dX4_merge_87 (lv_at hl 7 rfl) ?_
          refine va_lald (f := sf qS) hx hb hK hP 4 0 rfl rfl (mgI.l hg hJ (hI_72.1 c_76)) dX4_merge_89 ?_
          refine va_last (f := sm qS) hx hb hK hP hD hS 2 0 rfl rfl (mgI.at9 hn hg hJ c_20) dX4_merge_90 (fun H locs hP hD hS => ?_)
          obtain ⟨S_5, e_S_5⟩ : ∃ z : SSt, z = (sset_m qS (vp_updL (sm qS) q9.toNatClampNeg (sf qS q7.toNatClampNeg))) := ⟨_, rfl⟩
          have hP : va_P (dC, dI) vwCl (sWs ad w w_k w_na w_n so ba ma cJ S_5) H := by rw [e_S_5]; exact hP
          have hD : va_D A (sWs ad w w_k w_na w_n so ba ma cJ S_5) := by rw [e_S_5]; exact hD
          have hw : sH dC dI ad w w_k w_na w_n so ba ma cJ S_5 s H := ⟨hP, hK⟩
          have hk := kA_at hkA hS
          have hr_w := sR_of hts hw
          have hbe := sT_of hts hw
          have hf : f_X4_merge S w_k w_n x1 x2 x3 x4 = (rec_16 S_5 (q7 + (1 : Int32)) q8 (q9 + (1 : Int32))) := hf.trans (congrArg (fun z => (rec_16 z (q7 + (1 : Int32)) q8 (q9 + (1 : Int32)))) e_S_5.symm)
          obtain ⟨v7_6, e_v7_6⟩ : ∃ y : Int32, y = (q7 + (1 : Int32)) := ⟨_, rfl⟩
          refine lv_iinc (v := v7_6) (lv' := [(7, .int v7_6), (10, .int w_1), (0, .ref so), (1, .ref w), (2, .int x1), (4, .int x3), (5, .int x4), (6, .ref w_na), (8, .int q8), (9, .int q9)]) hx hb dX4_merge_91 hl (k := 7) rfl (by rw [e_v7_6]; rfl) (by decide) rfl (fun ls hl => ?_)
          have hf : f_X4_merge S w_k w_n x1 x2 x3 x4 = (rec_16 S_5 v7_6 q8 (q9 + (1 : Int32))) := hf.trans (congrArg (fun z => (rec_16 S_5 z q8 (q9 + (1 : Int32)))) e_v7_6.symm)
          refine lv_goto (tgt := 112) hx hb dX4_merge_94 (by decide) ?_
          obtain ⟨v9_7, e_v9_7⟩ : ∃ y : Int32, y = (q9 + (1 : Int32)) := ⟨_, rfl⟩
          refine lv_iinc (v := v9_7) (lv' := [(9, .int v9_7), (7, .int v7_6), (10, .int w_1), (0, .ref so), (1, .ref w), (2, .int x1), (4, .int x3), (5, .int x4), (6, .ref w_na), (8, .int q8)]) hx hb dX4_merge_112 hl (k := 9) rfl (by rw [e_v9_7]; rfl) (by decide) rfl (fun ls hl => ?_)
          have hf : f_X4_merge S w_k w_n x1 x2 x3 x4 = (rec_16 S_5 v7_6 q8 v9_7) := hf.trans (congrArg (fun z => (rec_16 S_5 v7_6 q8 z)) e_v9_7.symm)
          refine lv_goto (tgt := 16) hx hb dX4_merge_115 (by decide) ?_
          exact ih_16 (S_5, v7_6, q8, v9_7) _ _ ls ⟨hf.trans (congrFun (congrFun (congrFun (congrFun hrec_16 _) _) _) _), (by rw [e_v9_7, e_v7_6]; exact mgI.left hn hg hJ c_20 (hI_72.1 c_76)), hw, hD, hS⟩ (lv_sub hl [3, 4, 5, 6, 7, 8, 1, 9, 0] rfl)
      refine lv_icmp_ge (tgt := 67) hx hb dX4_merge_27 (by decide) (fun c_27 => ?_) (fun c_27 => ?_)
      · have hf : f_X4_merge S w_k w_n x1 x2 x3 x4 = (f_X4_merge_1 (1 : Int32) rec_16 qS q9 q8 q7) := hf.trans (if_pos c_27)
        refine lv_iconst (v := 1) hx hb dX4_merge_67 (by decide) ?_
        refine lv_goto (tgt := 72) hx hb dX4_merge_68 (by decide) ?_
        exact K_72 (1 : Int32) ls ⟨hf, ⟨fun _ => (by first | exact mgI.m hJ c_20 c_27 | exact c_34), fun h => absurd h (by decide)⟩⟩ (lv_sub hl [0, 1, 2, 3, 4, 5, 6, 7, 8] rfl)
      · have hf : f_X4_merge S w_k w_n x1 x2 x3 x4 = (f_X4_merge_3 x3 q7 rec_16 qS q9 q8 w_k x1) := hf.trans (if_neg c_27)
        refine lv_iload hx hb dX4_merge_30 (lv_at hl 6 rfl) ?_
        refine lv_iload hx hb dX4_merge_32 (lv_at hl 3 rfl) ?_
        refine lv_icmp_ge (tgt := 71) hx hb dX4_merge_34 (by decide) (fun c_34 => ?_) (fun c_34 => ?_)
        · have hf : f_X4_merge S w_k w_n x1 x2 x3 x4 = (f_X4_merge_1 (0 : Int32) rec_16 qS q9 q8 q7) := hf.trans (if_pos c_34)
          refine lv_iconst (v := 0) hx hb dX4_merge_71 (by decide) ?_
          exact K_72 (0 : Int32) ls ⟨hf, ⟨fun h => absurd rfl h, fun _ => c_27⟩⟩ (lv_sub hl [0, 1, 2, 3, 4, 5, 6, 7, 8] rfl)
        · have hf : f_X4_merge S w_k w_n x1 x2 x3 x4 = (f_X4_merge_2 w_k x1 qS q8 q7 rec_16 q9) := hf.trans (if_neg c_34)
          refine lv_aload_n hx hb dX4_merge_37 rfl (lv_at hl 1 rfl) ?_
          refine gf_H hx hb hr_w.2.1 hown (hts _ (zin__r16 (.fieldLink RX4 43 "ReckonBench$Row" "kind" "LReckonBench$Kind;") (List.mem_of_getElem? (i := 13) rfl))) (fun _ h9 => h9) dX4_merge_38 ?_
          refine lv_iload_n hx hb dX4_merge_41 rfl (lv_at hl 2 rfl) ?_
          refine lv_aload hx hb dX4_merge_42 (lv_at hl 5 rfl) ?_
          refine lv_iload hx hb dX4_merge_44 (lv_at hl 6 rfl) ?_
          refine va_lald (f := sf qS) hx hb hK hP 4 0 rfl rfl (mgI.l hg hJ c_34) dX4_merge_46 ?_
          refine vp_callSl (va_Run.run (va_runS (As := [.ref (ad w_k), .int x1, .long (sf qS q7.toNatClampNeg)]) (rest := []) ⟨hx, hb, hml, hown, hts⟩ (c_X4_rank l ad w_k h_w_k x1 (sf qS q7.toNatClampNeg)) (va_cwS 3 hts (gS iX4_rank (zin__r16 (.methodLink RX4 47 yX4_rank) (List.mem_of_getElem? (i := 14) rfl))) rfl rfl rfl (by decide +kernel) ⟨Nat.le_of_ble_eq_true rfl, Nat.le_of_ble_eq_true rfl⟩) ⟨fun a U g mk q => ⟨q.1, kU_bl q.2⟩, fun U hU hW => ⟨rfl, kU_mvH hk hU hW⟩⟩ rfl rfl hl.1 rfl (lv_room (Nat.le_of_ble_eq_true rfl)) dX4_merge_47 ⟨Nat.zero_le _, Nat.zero_le _⟩)) (fun r_47 hr_47 => ?_)
          subst hr_47
          refine lv_aload_n hx hb dX4_merge_50 rfl (lv_at hl 1 rfl) ?_
          refine gf_H hx hb hr_w.2.1 hown (hts _ (zin__r16 (.fieldLink RX4 43 "ReckonBench$Row" "kind" "LReckonBench$Kind;") (List.mem_of_getElem? (i := 13) rfl))) (fun _ h9 => h9) dX4_merge_51 ?_
          refine lv_iload_n hx hb dX4_merge_54 rfl (lv_at hl 2 rfl) ?_
          refine lv_aload hx hb dX4_merge_55 (lv_at hl 5 rfl) ?_
          refine lv_iload hx hb dX4_merge_57 (lv_at hl 7 rfl) ?_
          refine va_lald (f := sf qS) hx hb hK hP 4 0 rfl rfl (mgI.r hg hJ c_27) dX4_merge_59 ?_
          refine vp_callSl (va_Run.run (va_runS (As := [.ref (ad w_k), .int x1, .long (sf qS q8.toNatClampNeg)]) (rest := [.long (f_X4_rank w_k x1 (sf qS q7.toNatClampNeg))]) ⟨hx, hb, hml, hown, hts⟩ (c_X4_rank l ad w_k h_w_k x1 (sf qS q8.toNatClampNeg)) (va_cwS 3 hts (gS iX4_rank (zin__r16 (.methodLink RX4 47 yX4_rank) (List.mem_of_getElem? (i := 14) rfl))) rfl rfl rfl (by decide +kernel) ⟨Nat.le_of_ble_eq_true rfl, Nat.le_of_ble_eq_true rfl⟩) ⟨fun a U g mk q => ⟨q.1, kU_bl q.2⟩, fun U hU hW => ⟨rfl, kU_mvH hk hU hW⟩⟩ rfl rfl hl.1 rfl (lv_room (Nat.le_of_ble_eq_true rfl)) dX4_merge_60 ⟨Nat.zero_le _, Nat.zero_le _⟩)) (fun r_60 hr_60 => ?_)
          subst hr_60
          refine W.lcmp hx hb dX4_merge_63 ?_
          refine lv_if_gt (tgt := 71) hx hb dX4_merge_64 (by decide) (fun c_64 => ?_) (fun c_64 => ?_)
          · have c_64 : (f_X4_rank w_k x1 (sf qS q8.toNatClampNeg)) < (f_X4_rank w_k x1 (sf qS q7.toNatClampNeg)) := (lg_cmp_gt (f_X4_rank w_k x1 (sf qS q7.toNatClampNeg)) (f_X4_rank w_k x1 (sf qS q8.toNatClampNeg))).mp c_64
            have hf : f_X4_merge S w_k w_n x1 x2 x3 x4 = (f_X4_merge_1 (0 : Int32) rec_16 qS q9 q8 q7) := hf.trans (if_pos c_64)
            refine lv_iconst (v := 0) hx hb dX4_merge_71 (by decide) ?_
            exact K_72 (0 : Int32) ls ⟨hf, ⟨fun h => absurd rfl h, fun _ => c_27⟩⟩ (lv_sub hl [0, 1, 2, 3, 4, 5, 6, 7, 8] rfl)
          · have c_64 : ¬ ((f_X4_rank w_k x1 (sf qS q8.toNatClampNeg)) < (f_X4_rank w_k x1 (sf qS q7.toNatClampNeg))) := fun h9 => c_64 ((lg_cmp_gt (f_X4_rank w_k x1 (sf qS q7.toNatClampNeg)) (f_X4_rank w_k x1 (sf qS q8.toNatClampNeg))).mpr h9)
            have hf : f_X4_merge S w_k w_n x1 x2 x3 x4 = (f_X4_merge_1 (1 : Int32) rec_16 qS q9 q8 q7) := hf.trans (if_neg c_64)
            refine lv_iconst (v := 1) hx hb dX4_merge_67 (by decide) ?_
            refine lv_goto (tgt := 72) hx hb dX4_merge_68 (by decide) ?_
            exact K_72 (1 : Int32) ls ⟨hf, ⟨fun _ => (by first | exact mgI.m hJ c_20 c_27 | exact c_34), fun h => absurd h (by decide)⟩⟩ (lv_sub hl [0, 1, 2, 3, 4, 5, 6, 7, 8] rfl)
