def f_X0_stands (v_k : Nat) (v_lo : Int64) (v_hi : Int64) : Int32 := (f_X1_atMost v_k v_lo v_hi)
def zX0_stands : List Cond := .code yX0_stands cX0_stands 1 (some .boolean) :: zall
theorem iX0_stands : MWv RX0 yX0_stands (.code yX0_stands cX0_stands 1 (some .boolean)) := ⟨(zin__r13 (.instanceMethod yX0_stands) (List.mem_of_getElem? (i := 17) rfl)), (zin__r13 (.selects RX0 yX0_stands yX0_stands) (List.mem_of_getElem? (i := 18) rfl)), (zin__r13 (.initialized RX0) (List.mem_of_getElem? (i := 8) rfl)), (zin__r13 (.code yX0_stands cX0_stands 1 (some .boolean)) (List.mem_of_getElem? (i := 19) rfl))⟩
set_option maxHeartbeats 4000000 in
set_option maxRecDepth 100000 in
theorem c_X0_stands (l : Launch) (ad : Nat → Nat) (v v_k : Nat) (h_v_k : v_k < 2) (v_lo v_hi : Int64) : Met l yX0_stands zX0_stands ({ frames := 3, cells := 0, slots := 0, locals := 68 }) (va_Pc [.ref v] (fun U => kU ad U ∧ iU v ad v_k v_lo v_hi U)) (vp_Si (fun r => r = f_X0_stands v_k v_lo v_hi)) 0 0 (fun _ => False) := by
  refine Met.ofW (cc := cX0_stands) (maxL := 1) (ret := (some .boolean)) (by decide) rfl ?_
  intro p e s m args below meth c s₁ B hml hv
  obtain ⟨rfl, hk, hr_v⟩ := hv
  have hx := B.exec
  have hb := B.bytes
  have hr := B.returns
  have hts : ∀ w ∈ zall, w.before _ s = true := fun w h => atoms_spec (ws := zX0_stands) B.pre w (List.mem_cons_of_mem _ h)
  have hown : s.vm.findClass RX0 = some m.cls := findClass_of_methodNamed B.named
  have hlocks := B.notSynchronized
  have hl := lv_entry ([.ref v]) (n := 1) (Nat.le_of_ble_eq_true rfl)
  rw [lg_entry_eq]
  generalize (lg_sl ([.ref v]) ++ List.replicate (1 - (lg_sl ([.ref v])).length) Slot.unset).toArray = ls at hl ⊢
  have hl : lv_has ls 1 [(0, .ref v)] := hl
  have hf : f_X0_stands v_k v_lo v_hi = (f_X1_atMost v_k v_lo v_hi) := rfl
  refine lv_aload_n hx hb dX0_stands_0 rfl (lv_at hl 0 rfl) ?_
  refine vk_getf hx hb hr_v.2.1 va_S.rf hown (hts _ (zin__r13 (.fieldLink RX0 9 "ReckonBench$Interval" "kind" "LReckonBench$Kind;") (List.mem_of_getElem? (i := 13) rfl))) (fun _ h9 => h9) dX0_stands_1 ?_
  refine lv_aload_n hx hb dX0_stands_4 rfl (lv_at hl 0 rfl) ?_
  refine vk_getf hx hb hr_v.2.2.1 va_S.rf hown (hts _ (zin__r13 (.fieldLink RX0 13 "ReckonBench$Interval" "low" "J") (List.mem_of_getElem? (i := 14) rfl))) (fun _ h9 => h9) dX0_stands_5 ?_
  refine lv_aload_n hx hb dX0_stands_8 rfl (lv_at hl 0 rfl) ?_
  refine vk_getf hx hb hr_v.2.2.2 va_S.rf hown (hts _ (zin__r13 (.fieldLink RX0 17 "ReckonBench$Interval" "high" "J") (List.mem_of_getElem? (i := 15) rfl))) (fun _ h9 => h9) dX0_stands_9 ?_
  refine vp_callSi (va_Run.run (va_runV (As := [.long v_lo, .long v_hi]) (rest := []) ⟨hx, hb, hml, hown, hts⟩ (c_X1_atMost l ad v_k h_v_k v_lo v_hi) (cwV 2 hts (gV iX1_atMost (zin__r13 (.methodLink RX0 20 yX1_atMost) (List.mem_of_getElem? (i := 20) rfl))) rfl rfl rfl (by decide +kernel) ⟨Nat.le_of_ble_eq_true rfl, Nat.le_of_ble_eq_true rfl⟩) ⟨fun a U g mk q => ⟨q.1, kU_bl q.2⟩, (kU_rv hk h_v_k), fun U hU hW => ⟨rfl, kU_mvH hk hU hW⟩⟩ rfl rfl hl.1 rfl (lv_room (Nat.le_of_ble_eq_true rfl)) dX0_stands_12 ⟨Nat.zero_le _, Nat.zero_le _⟩)) (fun r_12 hr_12 => ?_)
  subst hr_12
  exact W.zret hx hb hr (f01_nar f01_atMost) (fun t ht hW => ⟨_, rfl, hf.symm, ht⟩) (fun q hq => absurd hq List.not_mem_nil) dX0_stands_15
def f_X0_hasZero_1 (v_k : Nat) (v_hi : Int64) : Int32 := if (f_X1_atMost v_k (0 : Int64) v_hi) = 0 then (0 : Int32) else (1 : Int32)
def f_X0_hasZero_2 (v_k : Nat) (v_lo : Int64) (v_hi : Int64) : Int32 := if (f_X1_atMost v_k v_lo (0 : Int64)) = 0 then (0 : Int32) else (f_X0_hasZero_1 v_k v_hi)
def f_X0_hasZero (v_k : Nat) (v_lo : Int64) (v_hi : Int64) : Int32 := (f_X0_hasZero_2 v_k v_lo v_hi)
def zX0_hasZero : List Cond := .code yX0_hasZero cX0_hasZero 1 (some .boolean) :: zall
theorem iX0_hasZero : MWv RX0 yX0_hasZero (.code yX0_hasZero cX0_hasZero 1 (some .boolean)) := ⟨(zin__r13 (.instanceMethod yX0_hasZero) (List.mem_of_getElem? (i := 22) rfl)), (zin__r13 (.selects RX0 yX0_hasZero yX0_hasZero) (List.mem_of_getElem? (i := 23) rfl)), (zin__r13 (.initialized RX0) (List.mem_of_getElem? (i := 8) rfl)), (zin__r14 (.code yX0_hasZero cX0_hasZero 1 (some .boolean)) (List.mem_of_getElem? (i := 0) rfl))⟩
set_option maxHeartbeats 4000000 in
set_option maxRecDepth 100000 in
theorem c_X0_hasZero (l : Launch) (ad : Nat → Nat) (v v_k : Nat) (h_v_k : v_k < 2) (v_lo v_hi : Int64) : Met l yX0_hasZero zX0_hasZero ({ frames := 3, cells := 0, slots := 0, locals := 68 }) (va_Pc [.ref v] (fun U => kU ad U ∧ iU v ad v_k v_lo v_hi U)) (vp_Si (fun r => r = f_X0_hasZero v_k v_lo v_hi)) 0 0 (fun _ => False) := by
  refine Met.ofW (cc := cX0_hasZero) (maxL := 1) (ret := (some .boolean)) (by decide) rfl ?_
  intro p e s m args below meth c s₁ B hml hv
  obtain ⟨rfl, hk, hr_v⟩ := hv
  have hx := B.exec
  have hb := B.bytes
  have hr := B.returns
  have hts : ∀ w ∈ zall, w.before _ s = true := fun w h => atoms_spec (ws := zX0_hasZero) B.pre w (List.mem_cons_of_mem _ h)
  have hown : s.vm.findClass RX0 = some m.cls := findClass_of_methodNamed B.named
  have hlocks := B.notSynchronized
  have hl := lv_entry ([.ref v]) (n := 1) (Nat.le_of_ble_eq_true rfl)
  rw [lg_entry_eq]
  generalize (lg_sl ([.ref v]) ++ List.replicate (1 - (lg_sl ([.ref v])).length) Slot.unset).toArray = ls at hl ⊢
  have hl : lv_has ls 1 [(0, .ref v)] := hl
  have hf : f_X0_hasZero v_k v_lo v_hi = (f_X0_hasZero_2 v_k v_lo v_hi) := rfl
  refine lv_aload_n hx hb dX0_hasZero_0 rfl (lv_at hl 0 rfl) ?_
  refine vk_getf hx hb hr_v.2.1 va_S.rf hown (hts _ (zin__r13 (.fieldLink RX0 9 "ReckonBench$Interval" "kind" "LReckonBench$Kind;") (List.mem_of_getElem? (i := 13) rfl))) (fun _ h9 => h9) dX0_hasZero_1 ?_
  refine lv_aload_n hx hb dX0_hasZero_4 rfl (lv_at hl 0 rfl) ?_
  refine vk_getf hx hb hr_v.2.2.1 va_S.rf hown (hts _ (zin__r13 (.fieldLink RX0 13 "ReckonBench$Interval" "low" "J") (List.mem_of_getElem? (i := 14) rfl))) (fun _ h9 => h9) dX0_hasZero_5 ?_
  refine lv_lconst (v := 0) hx hb dX0_hasZero_8 (by decide) ?_
  refine vp_callSi (va_Run.run (va_runV (As := [.long v_lo, .long (0 : Int64)]) (rest := []) ⟨hx, hb, hml, hown, hts⟩ (c_X1_atMost l ad v_k h_v_k v_lo (0 : Int64)) (cwV 2 hts (gV iX1_atMost (zin__r13 (.methodLink RX0 20 yX1_atMost) (List.mem_of_getElem? (i := 20) rfl))) rfl rfl rfl (by decide +kernel) ⟨Nat.le_of_ble_eq_true rfl, Nat.le_of_ble_eq_true rfl⟩) ⟨fun a U g mk q => ⟨q.1, kU_bl q.2⟩, (kU_rv hk h_v_k), fun U hU hW => ⟨rfl, kU_mvH hk hU hW⟩⟩ rfl rfl hl.1 rfl (lv_room (Nat.le_of_ble_eq_true rfl)) dX0_hasZero_9 ⟨Nat.zero_le _, Nat.zero_le _⟩)) (fun r_9 hr_9 => ?_)
  subst hr_9
  refine lv_if_eq (tgt := 34) hx hb dX0_hasZero_12 (by decide) (fun c_12 => ?_) (fun c_12 => ?_)
  · have hf : f_X0_hasZero v_k v_lo v_hi = (0 : Int32) := hf.trans (if_pos c_12)
    refine lv_iconst (v := 0) hx hb dX0_hasZero_34 (by decide) ?_
    exact W.zret hx hb hr rfl (fun t ht hW => ⟨_, rfl, hf.symm, ht⟩) (fun q hq => absurd hq List.not_mem_nil) dX0_hasZero_35
  · have hf : f_X0_hasZero v_k v_lo v_hi = (f_X0_hasZero_1 v_k v_hi) := hf.trans (if_neg c_12)
    refine lv_aload_n hx hb dX0_hasZero_15 rfl (lv_at hl 0 rfl) ?_
    refine vk_getf hx hb hr_v.2.1 va_S.rf hown (hts _ (zin__r13 (.fieldLink RX0 9 "ReckonBench$Interval" "kind" "LReckonBench$Kind;") (List.mem_of_getElem? (i := 13) rfl))) (fun _ h9 => h9) dX0_hasZero_16 ?_
    refine lv_lconst (v := 0) hx hb dX0_hasZero_19 (by decide) ?_
    refine lv_aload_n hx hb dX0_hasZero_20 rfl (lv_at hl 0 rfl) ?_
    refine vk_getf hx hb hr_v.2.2.2 va_S.rf hown (hts _ (zin__r13 (.fieldLink RX0 17 "ReckonBench$Interval" "high" "J") (List.mem_of_getElem? (i := 15) rfl))) (fun _ h9 => h9) dX0_hasZero_21 ?_
    refine vp_callSi (va_Run.run (va_runV (As := [.long (0 : Int64), .long v_hi]) (rest := []) ⟨hx, hb, hml, hown, hts⟩ (c_X1_atMost l ad v_k h_v_k (0 : Int64) v_hi) (cwV 2 hts (gV iX1_atMost (zin__r13 (.methodLink RX0 20 yX1_atMost) (List.mem_of_getElem? (i := 20) rfl))) rfl rfl rfl (by decide +kernel) ⟨Nat.le_of_ble_eq_true rfl, Nat.le_of_ble_eq_true rfl⟩) ⟨fun a U g mk q => ⟨q.1, kU_bl q.2⟩, (kU_rv hk h_v_k), fun U hU hW => ⟨rfl, kU_mvH hk hU hW⟩⟩ rfl rfl hl.1 rfl (lv_room (Nat.le_of_ble_eq_true rfl)) dX0_hasZero_24 ⟨Nat.zero_le _, Nat.zero_le _⟩)) (fun r_24 hr_24 => ?_)
    subst hr_24
    refine lv_if_eq (tgt := 34) hx hb dX0_hasZero_27 (by decide) (fun c_27 => ?_) (fun c_27 => ?_)
    · have hf : f_X0_hasZero v_k v_lo v_hi = (0 : Int32) := hf.trans (if_pos c_27)
      refine lv_iconst (v := 0) hx hb dX0_hasZero_34 (by decide) ?_
      exact W.zret hx hb hr rfl (fun t ht hW => ⟨_, rfl, hf.symm, ht⟩) (fun q hq => absurd hq List.not_mem_nil) dX0_hasZero_35
    · have hf : f_X0_hasZero v_k v_lo v_hi = (1 : Int32) := hf.trans (if_neg c_27)
      refine lv_iconst (v := 1) hx hb dX0_hasZero_30 (by decide) ?_
      refine lv_goto (tgt := 35) hx hb dX0_hasZero_31 (by decide) ?_
      exact W.zret hx hb hr rfl (fun t ht hW => ⟨_, rfl, hf.symm, ht⟩) (fun q hq => absurd hq List.not_mem_nil) dX0_hasZero_35
def f_X0_zeroIfNan_1 (v_k : Nat) (x1 : Int64) : Int64 := if (f_X1_isNan v_k x1) = 0 then x1 else (0 : Int64)
def f_X0_zeroIfNan (v_k : Nat) (v_lo : Int64) (v_hi : Int64) (x1 : Int64) : Int64 := (f_X0_zeroIfNan_1 v_k x1)
def zX0_zeroIfNan : List Cond := .code yX0_zeroIfNan cX0_zeroIfNan 3 (some .long) :: zall
theorem iX0_zeroIfNan : MWv RX0 yX0_zeroIfNan (.code yX0_zeroIfNan cX0_zeroIfNan 3 (some .long)) := ⟨(zin__r15 (.instanceMethod yX0_zeroIfNan) (List.mem_of_getElem? (i := 21) rfl)), (zin__r15 (.selects RX0 yX0_zeroIfNan yX0_zeroIfNan) (List.mem_of_getElem? (i := 22) rfl)), (zin__r13 (.initialized RX0) (List.mem_of_getElem? (i := 8) rfl)), (zin__r15 (.code yX0_zeroIfNan cX0_zeroIfNan 3 (some .long)) (List.mem_of_getElem? (i := 23) rfl))⟩
set_option maxHeartbeats 4000000 in
set_option maxRecDepth 100000 in
theorem c_X0_zeroIfNan (l : Launch) (ad : Nat → Nat) (v v_k : Nat) (h_v_k : v_k < 2) (v_lo v_hi : Int64) (x1 : Int64) : Met l yX0_zeroIfNan zX0_zeroIfNan ({ frames := 2, cells := 0, slots := 0, locals := 44 }) (va_Pc [.ref v, .long x1] (fun U => kU ad U ∧ iU v ad v_k v_lo v_hi U)) (vp_Sl (fun r => r = f_X0_zeroIfNan v_k v_lo v_hi x1)) 0 0 (fun _ => False) := by
  refine Met.ofW (cc := cX0_zeroIfNan) (maxL := 3) (ret := (some .long)) (by decide) rfl ?_
  intro p e s m args below meth c s₁ B hml hv
  obtain ⟨rfl, hk, hr_v⟩ := hv
  have hx := B.exec
  have hb := B.bytes
  have hr := B.returns
  have hts : ∀ w ∈ zall, w.before _ s = true := fun w h => atoms_spec (ws := zX0_zeroIfNan) B.pre w (List.mem_cons_of_mem _ h)
  have hown : s.vm.findClass RX0 = some m.cls := findClass_of_methodNamed B.named
  have hlocks := B.notSynchronized
  have hl := lv_entry ([.ref v, .long x1]) (n := 3) (Nat.le_of_ble_eq_true rfl)
  rw [lg_entry_eq]
  generalize (lg_sl ([.ref v, .long x1]) ++ List.replicate (3 - (lg_sl ([.ref v, .long x1])).length) Slot.unset).toArray = ls at hl ⊢
  have hl : lv_has ls 3 [(0, .ref v), (1, .long x1)] := hl
  have hf : f_X0_zeroIfNan v_k v_lo v_hi x1 = (f_X0_zeroIfNan_1 v_k x1) := rfl
  refine lv_aload_n hx hb dX0_zeroIfNan_0 rfl (lv_at hl 0 rfl) ?_
  refine vk_getf hx hb hr_v.2.1 va_S.rf hown (hts _ (zin__r13 (.fieldLink RX0 9 "ReckonBench$Interval" "kind" "LReckonBench$Kind;") (List.mem_of_getElem? (i := 13) rfl))) (fun _ h9 => h9) dX0_zeroIfNan_1 ?_
  refine lv_lload_n hx hb dX0_zeroIfNan_4 rfl (lv_at hl 1 rfl) ?_
  refine vp_callSi (va_Run.run (va_runV (As := [.long x1]) (rest := []) ⟨hx, hb, hml, hown, hts⟩ (c_X1_isNan l ad v_k h_v_k x1) (cwV 1 hts (gV iX1_isNan (zin__r15 (.methodLink RX0 79 yX1_isNan) (List.mem_of_getElem? (i := 0) rfl))) rfl rfl rfl (by decide +kernel) ⟨Nat.le_of_ble_eq_true rfl, Nat.le_of_ble_eq_true rfl⟩) ⟨fun a U g mk q => ⟨q.1, kU_bl q.2⟩, (kU_rv hk h_v_k), fun U hU hW => ⟨rfl, kU_mvH hk hU hW⟩⟩ rfl rfl hl.1 rfl (lv_room (Nat.le_of_ble_eq_true rfl)) dX0_zeroIfNan_5 ⟨Nat.zero_le _, Nat.zero_le _⟩)) (fun r_5 hr_5 => ?_)
  subst hr_5
  refine lv_if_eq (tgt := 15) hx hb dX0_zeroIfNan_8 (by decide) (fun c_8 => ?_) (fun c_8 => ?_)
  · have hf : f_X0_zeroIfNan v_k v_lo v_hi x1 = x1 := hf.trans (if_pos c_8)
    refine lv_lload_n hx hb dX0_zeroIfNan_15 rfl (lv_at hl 1 rfl) ?_
    exact W.lret hx hb hr (fun t ht hW => ⟨_, rfl, hf.symm, ht⟩) (fun q hq => absurd hq List.not_mem_nil) dX0_zeroIfNan_16
  · have hf : f_X0_zeroIfNan v_k v_lo v_hi x1 = (0 : Int64) := hf.trans (if_neg c_8)
    refine lv_lconst (v := 0) hx hb dX0_zeroIfNan_11 (by decide) ?_
    refine lv_goto (tgt := 16) hx hb dX0_zeroIfNan_12 (by decide) ?_
    exact W.lret hx hb hr (fun t ht hW => ⟨_, rfl, hf.symm, ht⟩) (fun q hq => absurd hq List.not_mem_nil) dX0_zeroIfNan_16
def f_X0_product (v_k : Nat) (v_lo : Int64) (v_hi : Int64) (x1 : Int64) (x2 : Int64) : Int64 := (f_X0_zeroIfNan v_k v_lo v_hi (f_X2_times v_k x1 x2))
def zX0_product : List Cond := .code yX0_product cX0_product 5 (some .long) :: zall
theorem iX0_product : MWv RX0 yX0_product (.code yX0_product cX0_product 5 (some .long)) := ⟨(zin__r15 (.instanceMethod yX0_product) (List.mem_of_getElem? (i := 16) rfl)), (zin__r15 (.selects RX0 yX0_product yX0_product) (List.mem_of_getElem? (i := 17) rfl)), (zin__r13 (.initialized RX0) (List.mem_of_getElem? (i := 8) rfl)), (zin__r15 (.code yX0_product cX0_product 5 (some .long)) (List.mem_of_getElem? (i := 18) rfl))⟩
set_option maxHeartbeats 4000000 in
set_option maxRecDepth 100000 in
theorem c_X0_product (l : Launch) (ad : Nat → Nat) (v v_k : Nat) (h_v_k : v_k < 2) (v_lo v_hi : Int64) (x1 : Int64) (x2 : Int64) : Met l yX0_product zX0_product ({ frames := 4, cells := 0, slots := 0, locals := 107 }) (va_Pc [.ref v, .long x1, .long x2] (fun U => kU ad U ∧ iU v ad v_k v_lo v_hi U)) (vp_Sl (fun r => r = f_X0_product v_k v_lo v_hi x1 x2)) 0 0 (fun _ => False) := by
  refine Met.ofW (cc := cX0_product) (maxL := 5) (ret := (some .long)) (by decide) rfl ?_
  intro p e s m args below meth c s₁ B hml hv
  obtain ⟨rfl, hk, hr_v⟩ := hv
  have hx := B.exec
  have hb := B.bytes
  have hr := B.returns
  have hts : ∀ w ∈ zall, w.before _ s = true := fun w h => atoms_spec (ws := zX0_product) B.pre w (List.mem_cons_of_mem _ h)
  have hown : s.vm.findClass RX0 = some m.cls := findClass_of_methodNamed B.named
  have hlocks := B.notSynchronized
  have hl := lv_entry ([.ref v, .long x1, .long x2]) (n := 5) (Nat.le_of_ble_eq_true rfl)
  rw [lg_entry_eq]
  generalize (lg_sl ([.ref v, .long x1, .long x2]) ++ List.replicate (5 - (lg_sl ([.ref v, .long x1, .long x2])).length) Slot.unset).toArray = ls at hl ⊢
  have hl : lv_has ls 5 [(0, .ref v), (1, .long x1), (3, .long x2)] := hl
  have hf : f_X0_product v_k v_lo v_hi x1 x2 = (f_X0_zeroIfNan v_k v_lo v_hi (f_X2_times v_k x1 x2)) := rfl
  refine lv_aload_n hx hb dX0_product_0 rfl (lv_at hl 0 rfl) ?_
  refine lv_aload_n hx hb dX0_product_1 rfl (lv_at hl 0 rfl) ?_
  refine vk_getf hx hb hr_v.2.1 va_S.rf hown (hts _ (zin__r13 (.fieldLink RX0 9 "ReckonBench$Interval" "kind" "LReckonBench$Kind;") (List.mem_of_getElem? (i := 13) rfl))) (fun _ h9 => h9) dX0_product_2 ?_
  refine lv_lload_n hx hb dX0_product_5 rfl (lv_at hl 1 rfl) ?_
  refine lv_lload_n hx hb dX0_product_6 rfl (lv_at hl 2 rfl) ?_
  refine vp_callSl (va_Run.run (va_runS (As := [.ref (ad v_k), .long x1, .long x2]) (rest := [.ref v]) ⟨hx, hb, hml, hown, hts⟩ (c_X2_times l ad v_k h_v_k x1 x2) (va_cwS 3 hts (gS iX2_times (zin__r15 (.methodLink RX0 69 yX2_times) (List.mem_of_getElem? (i := 19) rfl))) rfl rfl rfl (by decide +kernel) ⟨Nat.le_of_ble_eq_true rfl, Nat.le_of_ble_eq_true rfl⟩) ⟨fun a U g mk q => ⟨q.1, kU_bl q.2⟩, fun U hU hW => ⟨rfl, kU_mvH hk hU hW⟩⟩ rfl rfl hl.1 rfl (lv_room (Nat.le_of_ble_eq_true rfl)) dX0_product_7 ⟨Nat.zero_le _, Nat.zero_le _⟩)) (fun r_7 hr_7 => ?_)
  subst hr_7
  refine vp_callSl (va_Run.run (va_runV (As := [.long (f_X2_times v_k x1 x2)]) (rest := []) ⟨hx, hb, hml, hown, hts⟩ (c_X0_zeroIfNan l ad v v_k h_v_k v_lo v_hi (f_X2_times v_k x1 x2)) (cwV 1 hts (gV iX0_zeroIfNan (zin__r15 (.methodLink RX0 72 yX0_zeroIfNan) (List.mem_of_getElem? (i := 20) rfl))) rfl rfl rfl (by decide +kernel) ⟨Nat.le_of_ble_eq_true rfl, Nat.le_of_ble_eq_true rfl⟩) ⟨fun a U g mk q => ⟨q.1, kU_bl q.2.1, iU_bl q.2.2⟩, (iU_rv hr_v), fun U hU hW => ⟨rfl, ⟨kU_mvH hk hU hW, iU_mvH hr_v hU hW⟩⟩⟩ rfl rfl hl.1 rfl (lv_room (Nat.le_of_ble_eq_true rfl)) dX0_product_10 ⟨Nat.zero_le _, Nat.zero_le _⟩)) (fun r_10 hr_10 => ?_)
  subst hr_10
  exact W.lret hx hb hr (fun t ht hW => ⟨_, rfl, hf.symm, ht⟩) (fun q hq => absurd hq List.not_mem_nil) dX0_product_13
def f_X0_quotient (v_k : Nat) (v_lo : Int64) (v_hi : Int64) (x1 : Int64) (x2 : Int64) : Int64 := (f_X0_zeroIfNan v_k v_lo v_hi (f_X2_over v_k x1 x2))
def zX0_quotient : List Cond := .code yX0_quotient cX0_quotient 5 (some .long) :: zall
theorem iX0_quotient : MWv RX0 yX0_quotient (.code yX0_quotient cX0_quotient 5 (some .long)) := ⟨(zin__r16 (.instanceMethod yX0_quotient) (List.mem_of_getElem? (i := 7) rfl)), (zin__r16 (.selects RX0 yX0_quotient yX0_quotient) (List.mem_of_getElem? (i := 8) rfl)), (zin__r13 (.initialized RX0) (List.mem_of_getElem? (i := 8) rfl)), (zin__r16 (.code yX0_quotient cX0_quotient 5 (some .long)) (List.mem_of_getElem? (i := 9) rfl))⟩
set_option maxHeartbeats 4000000 in
set_option maxRecDepth 100000 in
theorem c_X0_quotient (l : Launch) (ad : Nat → Nat) (v v_k : Nat) (h_v_k : v_k < 2) (v_lo v_hi : Int64) (x1 : Int64) (x2 : Int64) : Met l yX0_quotient zX0_quotient ({ frames := 4, cells := 0, slots := 0, locals := 106 }) (va_Pc [.ref v, .long x1, .long x2] (fun U => kU ad U ∧ iU v ad v_k v_lo v_hi U)) (vp_Sl (fun r => r = f_X0_quotient v_k v_lo v_hi x1 x2)) 0 0 (fun _ => False) := by
  refine Met.ofW (cc := cX0_quotient) (maxL := 5) (ret := (some .long)) (by decide) rfl ?_
  intro p e s m args below meth c s₁ B hml hv
  obtain ⟨rfl, hk, hr_v⟩ := hv
  have hx := B.exec
  have hb := B.bytes
  have hr := B.returns
  have hts : ∀ w ∈ zall, w.before _ s = true := fun w h => atoms_spec (ws := zX0_quotient) B.pre w (List.mem_cons_of_mem _ h)
  have hown : s.vm.findClass RX0 = some m.cls := findClass_of_methodNamed B.named
  have hlocks := B.notSynchronized
  have hl := lv_entry ([.ref v, .long x1, .long x2]) (n := 5) (Nat.le_of_ble_eq_true rfl)
  rw [lg_entry_eq]
  generalize (lg_sl ([.ref v, .long x1, .long x2]) ++ List.replicate (5 - (lg_sl ([.ref v, .long x1, .long x2])).length) Slot.unset).toArray = ls at hl ⊢
  have hl : lv_has ls 5 [(0, .ref v), (1, .long x1), (3, .long x2)] := hl
  have hf : f_X0_quotient v_k v_lo v_hi x1 x2 = (f_X0_zeroIfNan v_k v_lo v_hi (f_X2_over v_k x1 x2)) := rfl
  refine lv_aload_n hx hb dX0_quotient_0 rfl (lv_at hl 0 rfl) ?_
  refine lv_aload_n hx hb dX0_quotient_1 rfl (lv_at hl 0 rfl) ?_
  refine vk_getf hx hb hr_v.2.1 va_S.rf hown (hts _ (zin__r13 (.fieldLink RX0 9 "ReckonBench$Interval" "kind" "LReckonBench$Kind;") (List.mem_of_getElem? (i := 13) rfl))) (fun _ h9 => h9) dX0_quotient_2 ?_
  refine lv_lload_n hx hb dX0_quotient_5 rfl (lv_at hl 1 rfl) ?_
  refine lv_lload_n hx hb dX0_quotient_6 rfl (lv_at hl 2 rfl) ?_
  refine vp_callSl (va_Run.run (va_runS (As := [.ref (ad v_k), .long x1, .long x2]) (rest := [.ref v]) ⟨hx, hb, hml, hown, hts⟩ (c_X2_over l ad v_k h_v_k x1 x2) (va_cwS 3 hts (gS iX2_over (zin__r16 (.methodLink RX0 76 yX2_over) (List.mem_of_getElem? (i := 10) rfl))) rfl rfl rfl (by decide +kernel) ⟨Nat.le_of_ble_eq_true rfl, Nat.le_of_ble_eq_true rfl⟩) ⟨fun a U g mk q => ⟨q.1, kU_bl q.2⟩, fun U hU hW => ⟨rfl, kU_mvH hk hU hW⟩⟩ rfl rfl hl.1 rfl (lv_room (Nat.le_of_ble_eq_true rfl)) dX0_quotient_7 ⟨Nat.zero_le _, Nat.zero_le _⟩)) (fun r_7 hr_7 => ?_)
  subst hr_7
  refine vp_callSl (va_Run.run (va_runV (As := [.long (f_X2_over v_k x1 x2)]) (rest := []) ⟨hx, hb, hml, hown, hts⟩ (c_X0_zeroIfNan l ad v v_k h_v_k v_lo v_hi (f_X2_over v_k x1 x2)) (cwV 1 hts (gV iX0_zeroIfNan (zin__r15 (.methodLink RX0 72 yX0_zeroIfNan) (List.mem_of_getElem? (i := 20) rfl))) rfl rfl rfl (by decide +kernel) ⟨Nat.le_of_ble_eq_true rfl, Nat.le_of_ble_eq_true rfl⟩) ⟨fun a U g mk q => ⟨q.1, kU_bl q.2.1, iU_bl q.2.2⟩, (iU_rv hr_v), fun U hU hW => ⟨rfl, ⟨kU_mvH hk hU hW, iU_mvH hr_v hU hW⟩⟩⟩ rfl rfl hl.1 rfl (lv_room (Nat.le_of_ble_eq_true rfl)) dX0_quotient_10 ⟨Nat.zero_le _, Nat.zero_le _⟩)) (fun r_10 hr_10 => ?_)
  subst hr_10
  exact W.lret hx hb hr (fun t ht hW => ⟨_, rfl, hf.symm, ht⟩) (fun q hq => absurd hq List.not_mem_nil) dX0_quotient_13
def f_X3_has_1 (w_n : Nat) (x1 : Int32) : Int32 := if (nI w_n) ≤ x1 then (0 : Int32) else (1 : Int32)
def f_X3_has_2 (w_n : Nat) (x1 : Int32) : Int32 := if x1 < 0 then (0 : Int32) else (f_X3_has_1 w_n x1)
def f_X3_has (w_k : Nat) (w_n : Nat) (w_f : Nat → Int64) (x1 : Int32) : Int32 := (f_X3_has_2 w_n x1)
def zX3_has : List Cond := .code yX3_has cX3_has 2 (some .boolean) :: zall
theorem iX3_has : MWv RX3 yX3_has (.code yX3_has cX3_has 2 (some .boolean)) := ⟨(zin__r3 (.instanceMethod yX3_has) (List.mem_of_getElem? (i := 14) rfl)), (zin__r3 (.selects RX3 yX3_has yX3_has) (List.mem_of_getElem? (i := 15) rfl)), (zin__r2 (.initialized RX3) (List.mem_of_getElem? (i := 11) rfl)), (zin__r3 (.code yX3_has cX3_has 2 (some .boolean)) (List.mem_of_getElem? (i := 16) rfl))⟩
set_option maxHeartbeats 4000000 in
set_option maxRecDepth 100000 in
theorem c_X3_has (l : Launch) (ad : Nat → Nat) (w w_na w_n : Nat) (w_f : Nat → Int64) (w_k : Nat) (h_w_k : w_k < 2) (x1 : Int32) : Met l yX3_has zX3_has ({ frames := 0, cells := 0, slots := 0, locals := 0 }) (va_Pc [.ref w, .int x1] (fun U => kU ad U ∧ rU w ad w_k w_na w_n w_f U)) (vp_Si (fun r => r = f_X3_has w_k w_n w_f x1)) 0 0 (fun _ => False) := by
  refine Met.ofW (cc := cX3_has) (maxL := 2) (ret := (some .boolean)) (by decide) rfl ?_
  intro p e s m args below meth c s₁ B hml hv
  obtain ⟨rfl, hk, hr_w⟩ := hv
  have hx := B.exec
  have hb := B.bytes
  have hr := B.returns
  have hts : ∀ w ∈ zall, w.before _ s = true := fun w h => atoms_spec (ws := zX3_has) B.pre w (List.mem_cons_of_mem _ h)
  have hown : s.vm.findClass RX3 = some m.cls := findClass_of_methodNamed B.named
  have hlocks := B.notSynchronized
  have hl := lv_entry ([.ref w, .int x1]) (n := 2) (Nat.le_of_ble_eq_true rfl)
  rw [lg_entry_eq]
  generalize (lg_sl ([.ref w, .int x1]) ++ List.replicate (2 - (lg_sl ([.ref w, .int x1])).length) Slot.unset).toArray = ls at hl ⊢
  have hl : lv_has ls 2 [(0, .ref w), (1, .int x1)] := hl
  have hf : f_X3_has w_k w_n w_f x1 = (f_X3_has_2 w_n x1) := rfl
  refine lv_iload_n hx hb dX3_has_0 rfl (lv_at hl 1 rfl) ?_
  refine lv_if_lt (tgt := 17) hx hb dX3_has_1 (by decide) (fun c_1 => ?_) (fun c_1 => ?_)
  · have hf : f_X3_has w_k w_n w_f x1 = (0 : Int32) := hf.trans (if_pos c_1)
    refine lv_iconst (v := 0) hx hb dX3_has_17 (by decide) ?_
    exact W.zret hx hb hr rfl (fun t ht hW => ⟨_, rfl, hf.symm, ht⟩) (fun q hq => absurd hq List.not_mem_nil) dX3_has_18
  · have hf : f_X3_has w_k w_n w_f x1 = (f_X3_has_1 w_n x1) := hf.trans (if_neg c_1)
    refine lv_iload_n hx hb dX3_has_4 rfl (lv_at hl 1 rfl) ?_
    refine lv_aload_n hx hb dX3_has_5 rfl (lv_at hl 0 rfl) ?_
    refine vk_getf hx hb hr_w.2.2.1 va_S.rf hown (hts _ (zin__r2 (.fieldLink RX3 15 "ReckonBench$Row" "numbers" "[J") (List.mem_of_getElem? (i := 23) rfl))) (fun _ h9 => h9) dX3_has_6 ?_
    refine va_tlen hx hb hr_w.2.2.2 va_S.rf (v := (nI w_n)) rfl dX3_has_9 ?_
    refine lv_icmp_ge (tgt := 17) hx hb dX3_has_10 (by decide) (fun c_10 => ?_) (fun c_10 => ?_)
    · have hf : f_X3_has w_k w_n w_f x1 = (0 : Int32) := hf.trans (if_pos c_10)
      refine lv_iconst (v := 0) hx hb dX3_has_17 (by decide) ?_
      exact W.zret hx hb hr rfl (fun t ht hW => ⟨_, rfl, hf.symm, ht⟩) (fun q hq => absurd hq List.not_mem_nil) dX3_has_18
    · have hf : f_X3_has w_k w_n w_f x1 = (1 : Int32) := hf.trans (if_neg c_10)
      refine lv_iconst (v := 1) hx hb dX3_has_13 (by decide) ?_
      refine lv_goto (tgt := 18) hx hb dX3_has_14 (by decide) ?_
      exact W.zret hx hb hr rfl (fun t ht hW => ⟨_, rfl, hf.symm, ht⟩) (fun q hq => absurd hq List.not_mem_nil) dX3_has_18
def f_X3_hasPair_1 (w_n : Nat) (x1 : Int32) : Int32 := if ((nI w_n) / (2 : Int32)) ≤ x1 then (0 : Int32) else (1 : Int32)
def f_X3_hasPair_2 (w_n : Nat) (x1 : Int32) : Int32 := if x1 < 0 then (0 : Int32) else (f_X3_hasPair_1 w_n x1)
def f_X3_hasPair (w_k : Nat) (w_n : Nat) (w_f : Nat → Int64) (x1 : Int32) : Int32 := (f_X3_hasPair_2 w_n x1)
def zX3_hasPair : List Cond := .code yX3_hasPair cX3_hasPair 2 (some .boolean) :: zall
theorem iX3_hasPair : MWv RX3 yX3_hasPair (.code yX3_hasPair cX3_hasPair 2 (some .boolean)) := ⟨(zin__r12 (.instanceMethod yX3_hasPair) (List.mem_of_getElem? (i := 23) rfl)), (zin__r13 (.selects RX3 yX3_hasPair yX3_hasPair) (List.mem_of_getElem? (i := 0) rfl)), (zin__r2 (.initialized RX3) (List.mem_of_getElem? (i := 11) rfl)), (zin__r13 (.code yX3_hasPair cX3_hasPair 2 (some .boolean)) (List.mem_of_getElem? (i := 1) rfl))⟩
set_option maxHeartbeats 4000000 in
set_option maxRecDepth 100000 in
theorem c_X3_hasPair (l : Launch) (ad : Nat → Nat) (w w_na w_n : Nat) (w_f : Nat → Int64) (w_k : Nat) (h_w_k : w_k < 2) (x1 : Int32) : Met l yX3_hasPair zX3_hasPair ({ frames := 0, cells := 0, slots := 0, locals := 0 }) (va_Pc [.ref w, .int x1] (fun U => kU ad U ∧ rU w ad w_k w_na w_n w_f U)) (vp_Si (fun r => r = f_X3_hasPair w_k w_n w_f x1)) 0 0 (fun _ => False) := by
  refine Met.ofW (cc := cX3_hasPair) (maxL := 2) (ret := (some .boolean)) (by decide) rfl ?_
  intro p e s m args below meth c s₁ B hml hv
  obtain ⟨rfl, hk, hr_w⟩ := hv
  have hx := B.exec
  have hb := B.bytes
  have hr := B.returns
  have hts : ∀ w ∈ zall, w.before _ s = true := fun w h => atoms_spec (ws := zX3_hasPair) B.pre w (List.mem_cons_of_mem _ h)
  have hown : s.vm.findClass RX3 = some m.cls := findClass_of_methodNamed B.named
  have hlocks := B.notSynchronized
  have hl := lv_entry ([.ref w, .int x1]) (n := 2) (Nat.le_of_ble_eq_true rfl)
  rw [lg_entry_eq]
  generalize (lg_sl ([.ref w, .int x1]) ++ List.replicate (2 - (lg_sl ([.ref w, .int x1])).length) Slot.unset).toArray = ls at hl ⊢
  have hl : lv_has ls 2 [(0, .ref w), (1, .int x1)] := hl
  have hf : f_X3_hasPair w_k w_n w_f x1 = (f_X3_hasPair_2 w_n x1) := rfl
  refine lv_iload_n hx hb dX3_hasPair_0 rfl (lv_at hl 1 rfl) ?_
  refine lv_if_lt (tgt := 19) hx hb dX3_hasPair_1 (by decide) (fun c_1 => ?_) (fun c_1 => ?_)
  · have hf : f_X3_hasPair w_k w_n w_f x1 = (0 : Int32) := hf.trans (if_pos c_1)
    refine lv_iconst (v := 0) hx hb dX3_hasPair_19 (by decide) ?_
    exact W.zret hx hb hr rfl (fun t ht hW => ⟨_, rfl, hf.symm, ht⟩) (fun q hq => absurd hq List.not_mem_nil) dX3_hasPair_20
  · have hf : f_X3_hasPair w_k w_n w_f x1 = (f_X3_hasPair_1 w_n x1) := hf.trans (if_neg c_1)
    refine lv_iload_n hx hb dX3_hasPair_4 rfl (lv_at hl 1 rfl) ?_
    refine lv_aload_n hx hb dX3_hasPair_5 rfl (lv_at hl 0 rfl) ?_
    refine vk_getf hx hb hr_w.2.2.1 va_S.rf hown (hts _ (zin__r2 (.fieldLink RX3 15 "ReckonBench$Row" "numbers" "[J") (List.mem_of_getElem? (i := 23) rfl))) (fun _ h9 => h9) dX3_hasPair_6 ?_
    refine va_tlen hx hb hr_w.2.2.2 va_S.rf (v := (nI w_n)) rfl dX3_hasPair_9 ?_
    refine lv_iconst (v := 2) hx hb dX3_hasPair_10 (by decide) ?_
    refine lv_idiv hx hb dX3_hasPair_11 (by decide) ?_
    refine lv_icmp_ge (tgt := 19) hx hb dX3_hasPair_12 (by decide) (fun c_12 => ?_) (fun c_12 => ?_)
    · have hf : f_X3_hasPair w_k w_n w_f x1 = (0 : Int32) := hf.trans (if_pos c_12)
      refine lv_iconst (v := 0) hx hb dX3_hasPair_19 (by decide) ?_
      exact W.zret hx hb hr rfl (fun t ht hW => ⟨_, rfl, hf.symm, ht⟩) (fun q hq => absurd hq List.not_mem_nil) dX3_hasPair_20
    · have hf : f_X3_hasPair w_k w_n w_f x1 = (1 : Int32) := hf.trans (if_neg c_12)
      refine lv_iconst (v := 1) hx hb dX3_hasPair_15 (by decide) ?_
      refine lv_goto (tgt := 20) hx hb dX3_hasPair_16 (by decide) ?_
      exact W.zret hx hb hr rfl (fun t ht hW => ⟨_, rfl, hf.symm, ht⟩) (fun q hq => absurd hq List.not_mem_nil) dX3_hasPair_20
def f_X3_isBeyond_1 (w_k : Nat) (x1 : Int64) (x2 : Int64) (x3 : Int32) : Int32 := if x3 = 0 then (f_X1_isBelow w_k x1 x2) else (f_X1_isBelow w_k x2 x1)
def f_X3_isBeyond (w_k : Nat) (w_n : Nat) (w_f : Nat → Int64) (x1 : Int64) (x2 : Int64) (x3 : Int32) : Int32 := (f_X3_isBeyond_1 w_k x1 x2 x3)
def f_X3_firstExtreme_1 (w_k : Nat) (w_n : Nat) (w_f : Nat → Int64) (x1 : Int32) (q2 : Int32) (q3 : Int32) (rec_4 : Int32 → Int32 → Int32) (v4_1 : Int64) : Int32 := if (f_X3_isBeyond w_k w_n w_f v4_1 (w_f q2.toNatClampNeg) x1) = 0 then (rec_4 q2 (q3 + (1 : Int32))) else (rec_4 q3 (q3 + (1 : Int32)))
def f_X3_firstExtreme_2 (w_k : Nat) (w_n : Nat) (w_f : Nat → Int64) (x1 : Int32) (q2 : Int32) (q3 : Int32) (rec_4 : Int32 → Int32 → Int32) (v4_1 : Int64) : Int32 := if q2 = (-1 : Int32) then (rec_4 q3 (q3 + (1 : Int32))) else (f_X3_firstExtreme_1 w_k w_n w_f x1 q2 q3 rec_4 v4_1)
def f_X3_firstExtreme_3 (w_k : Nat) (w_n : Nat) (w_f : Nat → Int64) (x1 : Int32) (q2 : Int32) (q3 : Int32) (rec_4 : Int32 → Int32 → Int32) (v4_1 : Int64) : Int32 := if (f_X1_isNan w_k v4_1) = 0 then (f_X3_firstExtreme_2 w_k w_n w_f x1 q2 q3 rec_4 v4_1) else (rec_4 q2 (q3 + (1 : Int32)))
def f_X3_firstExtreme_4 (w_k : Nat) (w_n : Nat) (w_f : Nat → Int64) (x1 : Int32) (q2 : Int32) (q3 : Int32) (rec_4 : Int32 → Int32 → Int32) : Int32 := if (nI w_n) ≤ q3 then q2 else (f_X3_firstExtreme_3 w_k w_n w_f x1 q2 q3 rec_4 (w_f q3.toNatClampNeg))
def f_X3_firstExtreme_L4 (w_k : Nat) (w_n : Nat) (w_f : Nat → Int64) (x1 : Int32) : Nat → Int32 → Int32 → Int32
  | 0, _, _ => 0
  | n + 1, q2, q3 => (f_X3_firstExtreme_4 w_k w_n w_f x1 q2 q3 (f_X3_firstExtreme_L4 w_k w_n w_f x1 n))
def f_X3_firstExtreme (w_k : Nat) (w_n : Nat) (w_f : Nat → Int64) (x1 : Int32) : Int32 := (f_X3_firstExtreme_L4 w_k w_n w_f x1 501 (-1 : Int32) (0 : Int32))
def f_X3_isSorted_1 (w_k : Nat) (w_f : Nat → Int64) (q1 : Int32) (rec_2 : Int32 → Int32) : Int32 := if (f_X1_totalRank w_k (w_f (q1 - (1 : Int32)).toNatClampNeg)) ≤ (f_X1_totalRank w_k (w_f q1.toNatClampNeg)) then (rec_2 (q1 + (1 : Int32))) else (0 : Int32)
def f_X3_isSorted_2 (w_k : Nat) (w_n : Nat) (w_f : Nat → Int64) (q1 : Int32) (rec_2 : Int32 → Int32) : Int32 := if (nI w_n) ≤ q1 then (1 : Int32) else (f_X3_isSorted_1 w_k w_f q1 rec_2)
def f_X3_isSorted_L2 (w_k : Nat) (w_n : Nat) (w_f : Nat → Int64) : Nat → Int32 → Int32
  | 0, _ => 0
  | n + 1, q1 => (f_X3_isSorted_2 w_k w_n w_f q1 (f_X3_isSorted_L2 w_k w_n w_f n))
def f_X3_isSorted (w_k : Nat) (w_n : Nat) (w_f : Nat → Int64) : Int32 := (f_X3_isSorted_L2 w_k w_n w_f 500 (1 : Int32))
def f_X3_firstWith_1 (w_f : Nat → Int64) (x1 : Int64) (q3 : Int32) (rec_2 : Int32 → Int32) : Int32 := if (w_f q3.toNatClampNeg) = x1 then q3 else (rec_2 (q3 + (1 : Int32)))
def f_X3_firstWith_2 (w_n : Nat) (w_f : Nat → Int64) (x1 : Int64) (q3 : Int32) (rec_2 : Int32 → Int32) : Int32 := if (nI w_n) ≤ q3 then (-1 : Int32) else (f_X3_firstWith_1 w_f x1 q3 rec_2)
def f_X3_firstWith_L2 (w_n : Nat) (w_f : Nat → Int64) (x1 : Int64) : Nat → Int32 → Int32
  | 0, _ => 0
  | n + 1, q3 => (f_X3_firstWith_2 w_n w_f x1 q3 (f_X3_firstWith_L2 w_n w_f x1 n))
def f_X3_firstWith (w_k : Nat) (w_n : Nat) (w_f : Nat → Int64) (x1 : Int64) : Int32 := (f_X3_firstWith_L2 w_n w_f x1 501 (0 : Int32))
def f_X4_rank_1 (i : Nat) (x1 : Int32) (x2 : Int64) : Int64 := if x1 = (1 : Int32) then (-(f_X1_totalRank i x2)) else (f_X1_magnitude i x2)
def f_X4_rank_2 (i : Nat) (x1 : Int32) (x2 : Int64) : Int64 := if x1 = 0 then (f_X1_totalRank i x2) else (f_X4_rank_1 i x1 x2)
def f_X4_rank (i : Nat) (x1 : Int32) (x2 : Int64) : Int64 := (f_X4_rank_2 i x1 x2)
def f_X5_plain_1 (i : Nat) (a_n : Nat) (a_f : Nat → Int64) (q2 : Int64) (q4 : Int32) (rec_5 : Int64 → Int32 → Int64) : Int64 := if (nI a_n) ≤ q4 then q2 else (rec_5 (f_X2_plus i q2 (a_f q4.toNatClampNeg)) (q4 + (1 : Int32)))
def f_X5_plain_L5 (i : Nat) (a_n : Nat) (a_f : Nat → Int64) : Nat → Int64 → Int32 → Int64
  | 0, _, _ => 0
  | n + 1, q2, q4 => (f_X5_plain_1 i a_n a_f q2 q4 (f_X5_plain_L5 i a_n a_f n))
def f_X5_plain (i : Nat) (a_n : Nat) (a_f : Nat → Int64) : Int64 := (f_X5_plain_L5 i a_n a_f 501 (0 : Int64) (0 : Int32))
def f_X5_carried_1 (i : Nat) (q2 : Int64) (q6 : Int32) (rec_8 : Int64 → Int64 → Int32 → Int64) (v7_1 : Int64) (v9_2 : Int64) : Int64 := (rec_8 v9_2 (f_X2_minus i (f_X2_minus i v9_2 q2) v7_1) (q6 + (1 : Int32)))
def f_X5_carried_2 (i : Nat) (q2 : Int64) (q6 : Int32) (rec_8 : Int64 → Int64 → Int32 → Int64) (v7_1 : Int64) : Int64 := (f_X5_carried_1 i q2 q6 rec_8 v7_1 (f_X2_plus i q2 v7_1))
def f_X5_carried_3 (i : Nat) (a_n : Nat) (a_f : Nat → Int64) (q2 : Int64) (q4 : Int64) (q6 : Int32) (rec_8 : Int64 → Int64 → Int32 → Int64) : Int64 := if (nI a_n) ≤ q6 then q2 else (f_X5_carried_2 i q2 q6 rec_8 (f_X2_minus i (a_f q6.toNatClampNeg) q4))
def f_X5_carried_L8 (i : Nat) (a_n : Nat) (a_f : Nat → Int64) : Nat → Int64 → Int64 → Int32 → Int64
  | 0, _, _, _ => 0
  | n + 1, q2, q4, q6 => (f_X5_carried_3 i a_n a_f q2 q4 q6 (f_X5_carried_L8 i a_n a_f n))
def f_X5_carried (i : Nat) (a_n : Nat) (a_f : Nat → Int64) : Int64 := (f_X5_carried_L8 i a_n a_f 501 (0 : Int64) (0 : Int64) (0 : Int32))
