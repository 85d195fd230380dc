def f_X0_stands (v_k : Nat) (v_lo : Int64) (v_hi : Int64) : Int32 := (f_X1_atMost v_k v_lo v_hi)
def zX0_stands : List Cond := .code yX0_stands cX0_stands 1 (some .boolean) :: zall
theorem iX0_stands : MWv RX0 yX0_stands (.code yX0_stands cX0_stands 1 (some .boolean)) := ⟨(zin__r27 (.instanceMethod yX0_stands) (List.mem_of_getElem? (i := 8) rfl)), (zin__r27 (.selects RX0 yX0_stands yX0_stands) (List.mem_of_getElem? (i := 9) rfl)), (zin__r26 (.initialized RX0) (List.mem_of_getElem? (i := 23) rfl)), (zin__r27 (.code yX0_stands cX0_stands 1 (some .boolean)) (List.mem_of_getElem? (i := 10) rfl))⟩
set_option maxHeartbeats 4000000 in
set_option maxRecDepth 100000 in
theorem c_X0_stands (l : Launch) (ad : Nat → Nat) (v v_k : Nat) (h_v_k : v_k < 2) (v_lo v_hi : Int64) : Met l yX0_stands zX0_stands ({ frames := 3, cells := 0, slots := 0, locals := 68 }) (va_Pc [.ref v] (fun U => kU ad U ∧ iU v ad v_k v_lo v_hi U)) (vp_Si (fun r => r = f_X0_stands v_k v_lo v_hi)) 0 0 (fun _ => False) := by
  refine Met.ofW (cc := cX0_stands) (maxL := 1) (ret := (some .boolean)) (by decide) rfl ?_
  intro p e s m args below meth c s₁ B hml hv
  obtain ⟨rfl, hk, hr_v⟩ := hv
  have hx := B.exec
  have hb := B.bytes
  have hr := B.returns
  have hts : ∀ w ∈ zall, w.before _ s = true := fun w h => atoms_spec (ws := zX0_stands) B.pre w (List.mem_cons_of_mem _ h)
  have hown : s.vm.findClass RX0 = some m.cls := findClass_of_methodNamed B.named
  have hlocks := B.notSynchronized
  have hl := lv_entry ([.ref v]) (n := 1) (Nat.le_of_ble_eq_true rfl)
  rw [lg_entry_eq]
  generalize (lg_sl ([.ref v]) ++ List.replicate (1 - (lg_sl ([.ref v])).length) Slot.unset).toArray = ls at hl ⊢
  have hl : lv_has ls 1 [(0, .ref v)] := hl
  have hf : f_X0_stands v_k v_lo v_hi = (f_X1_atMost v_k v_lo v_hi) := rfl
  refine lv_aload_n hx hb dX0_stands_0 rfl (lv_at hl 0 rfl) ?_
  refine vk_getf hx hb hr_v.2.1 va_S.rf hown (hts _ (zin__r27 (.fieldLink RX0 9 "ReckonBench$Interval" "kind" "LReckonBench$Kind;") (List.mem_of_getElem? (i := 4) rfl))) (fun _ h9 => h9) dX0_stands_1 ?_
  refine lv_aload_n hx hb dX0_stands_4 rfl (lv_at hl 0 rfl) ?_
  refine vk_getf hx hb hr_v.2.2.1 va_S.rf hown (hts _ (zin__r27 (.fieldLink RX0 13 "ReckonBench$Interval" "low" "J") (List.mem_of_getElem? (i := 5) rfl))) (fun _ h9 => h9) dX0_stands_5 ?_
  refine lv_aload_n hx hb dX0_stands_8 rfl (lv_at hl 0 rfl) ?_
  refine vk_getf hx hb hr_v.2.2.2 va_S.rf hown (hts _ (zin__r27 (.fieldLink RX0 17 "ReckonBench$Interval" "high" "J") (List.mem_of_getElem? (i := 6) rfl))) (fun _ h9 => h9) dX0_stands_9 ?_
  refine vp_callSi (va_Run.run (va_runV (As := [.long v_lo, .long v_hi]) (rest := []) ⟨hx, hb, hml, hown, hts⟩ (c_X1_atMost l ad v_k h_v_k v_lo v_hi) (cwV 2 hts (gV iX1_atMost (zin__r27 (.methodLink RX0 20 yX1_atMost) (List.mem_of_getElem? (i := 11) rfl))) rfl rfl rfl (by decide +kernel) ⟨Nat.le_of_ble_eq_true rfl, Nat.le_of_ble_eq_true rfl⟩) ⟨fun a U g mk q => ⟨q.1, kU_bl q.2⟩, (kU_rv hk h_v_k), fun U hU hW => ⟨rfl, kU_mvH hk hU hW⟩⟩ rfl rfl hl.1 rfl (lv_room (Nat.le_of_ble_eq_true rfl)) dX0_stands_12 ⟨Nat.zero_le _, Nat.zero_le _⟩)) (fun r_12 hr_12 => ?_)
  subst hr_12
  exact W.zret hx hb hr (f01_nar f01_atMost) (fun t ht hW => ⟨_, rfl, hf.symm, ht⟩) (fun q hq => absurd hq List.not_mem_nil) dX0_stands_15
def f_X0_hasZero_1 (v_k : Nat) (v_hi : Int64) : Int32 := if (f_X1_atMost v_k (0 : Int64) v_hi) = 0 then (0 : Int32) else (1 : Int32)
def f_X0_hasZero_2 (v_k : Nat) (v_lo : Int64) (v_hi : Int64) : Int32 := if (f_X1_atMost v_k v_lo (0 : Int64)) = 0 then (0 : Int32) else (f_X0_hasZero_1 v_k v_hi)
def f_X0_hasZero (v_k : Nat) (v_lo : Int64) (v_hi : Int64) : Int32 := (f_X0_hasZero_2 v_k v_lo v_hi)
def zX0_hasZero : List Cond := .code yX0_hasZero cX0_hasZero 1 (some .boolean) :: zall
theorem iX0_hasZero : MWv RX0 yX0_hasZero (.code yX0_hasZero cX0_hasZero 1 (some .boolean)) := ⟨(zin__r27 (.instanceMethod yX0_hasZero) (List.mem_of_getElem? (i := 13) rfl)), (zin__r27 (.selects RX0 yX0_hasZero yX0_hasZero) (List.mem_of_getElem? (i := 14) rfl)), (zin__r26 (.initialized RX0) (List.mem_of_getElem? (i := 23) rfl)), (zin__r27 (.code yX0_hasZero cX0_hasZero 1 (some .boolean)) (List.mem_of_getElem? (i := 15) rfl))⟩
set_option maxHeartbeats 4000000 in
set_option maxRecDepth 100000 in
theorem c_X0_hasZero (l : Launch) (ad : Nat → Nat) (v v_k : Nat) (h_v_k : v_k < 2) (v_lo v_hi : Int64) : Met l yX0_hasZero zX0_hasZero ({ frames := 3, cells := 0, slots := 0, locals := 68 }) (va_Pc [.ref v] (fun U => kU ad U ∧ iU v ad v_k v_lo v_hi U)) (vp_Si (fun r => r = f_X0_hasZero v_k v_lo v_hi)) 0 0 (fun _ => False) := by
  refine Met.ofW (cc := cX0_hasZero) (maxL := 1) (ret := (some .boolean)) (by decide) rfl ?_
  intro p e s m args below meth c s₁ B hml hv
  obtain ⟨rfl, hk, hr_v⟩ := hv
  have hx := B.exec
  have hb := B.bytes
  have hr := B.returns
  have hts : ∀ w ∈ zall, w.before _ s = true := fun w h => atoms_spec (ws := zX0_hasZero) B.pre w (List.mem_cons_of_mem _ h)
  have hown : s.vm.findClass RX0 = some m.cls := findClass_of_methodNamed B.named
  have hlocks := B.notSynchronized
  have hl := lv_entry ([.ref v]) (n := 1) (Nat.le_of_ble_eq_true rfl)
  rw [lg_entry_eq]
  generalize (lg_sl ([.ref v]) ++ List.replicate (1 - (lg_sl ([.ref v])).length) Slot.unset).toArray = ls at hl ⊢
  have hl : lv_has ls 1 [(0, .ref v)] := hl
  have hf : f_X0_hasZero v_k v_lo v_hi = (f_X0_hasZero_2 v_k v_lo v_hi) := rfl
  refine lv_aload_n hx hb dX0_hasZero_0 rfl (lv_at hl 0 rfl) ?_
  refine vk_getf hx hb hr_v.2.1 va_S.rf hown (hts _ (zin__r27 (.fieldLink RX0 9 "ReckonBench$Interval" "kind" "LReckonBench$Kind;") (List.mem_of_getElem? (i := 4) rfl))) (fun _ h9 => h9) dX0_hasZero_1 ?_
  refine lv_aload_n hx hb dX0_hasZero_4 rfl (lv_at hl 0 rfl) ?_
  refine vk_getf hx hb hr_v.2.2.1 va_S.rf hown (hts _ (zin__r27 (.fieldLink RX0 13 "ReckonBench$Interval" "low" "J") (List.mem_of_getElem? (i := 5) rfl))) (fun _ h9 => h9) dX0_hasZero_5 ?_
  refine lv_lconst (v := 0) hx hb dX0_hasZero_8 (by decide) ?_
  refine vp_callSi (va_Run.run (va_runV (As := [.long v_lo, .long (0 : Int64)]) (rest := []) ⟨hx, hb, hml, hown, hts⟩ (c_X1_atMost l ad v_k h_v_k v_lo (0 : Int64)) (cwV 2 hts (gV iX1_atMost (zin__r27 (.methodLink RX0 20 yX1_atMost) (List.mem_of_getElem? (i := 11) rfl))) rfl rfl rfl (by decide +kernel) ⟨Nat.le_of_ble_eq_true rfl, Nat.le_of_ble_eq_true rfl⟩) ⟨fun a U g mk q => ⟨q.1, kU_bl q.2⟩, (kU_rv hk h_v_k), fun U hU hW => ⟨rfl, kU_mvH hk hU hW⟩⟩ rfl rfl hl.1 rfl (lv_room (Nat.le_of_ble_eq_true rfl)) dX0_hasZero_9 ⟨Nat.zero_le _, Nat.zero_le _⟩)) (fun r_9 hr_9 => ?_)
  subst hr_9
  refine lv_if_eq (tgt := 34) hx hb dX0_hasZero_12 (by decide) (fun c_12 => ?_) (fun c_12 => ?_)
  · have hf : f_X0_hasZero v_k v_lo v_hi = (0 : Int32) := hf.trans (if_pos c_12)
    refine lv_iconst (v := 0) hx hb dX0_hasZero_34 (by decide) ?_
    exact W.zret hx hb hr rfl (fun t ht hW => ⟨_, rfl, hf.symm, ht⟩) (fun q hq => absurd hq List.not_mem_nil) dX0_hasZero_35
  · have hf : f_X0_hasZero v_k v_lo v_hi = (f_X0_hasZero_1 v_k v_hi) := hf.trans (if_neg c_12)
    refine lv_aload_n hx hb dX0_hasZero_15 rfl (lv_at hl 0 rfl) ?_
    refine vk_getf hx hb hr_v.2.1 va_S.rf hown (hts _ (zin__r27 (.fieldLink RX0 9 "ReckonBench$Interval" "kind" "LReckonBench$Kind;") (List.mem_of_getElem? (i := 4) rfl))) (fun _ h9 => h9) dX0_hasZero_16 ?_
    refine lv_lconst (v := 0) hx hb dX0_hasZero_19 (by decide) ?_
    refine lv_aload_n hx hb dX0_hasZero_20 rfl (lv_at hl 0 rfl) ?_
    refine vk_getf hx hb hr_v.2.2.2 va_S.rf hown (hts _ (zin__r27 (.fieldLink RX0 17 "ReckonBench$Interval" "high" "J") (List.mem_of_getElem? (i := 6) rfl))) (fun _ h9 => h9) dX0_hasZero_21 ?_
    refine vp_callSi (va_Run.run (va_runV (As := [.long (0 : Int64), .long v_hi]) (rest := []) ⟨hx, hb, hml, hown, hts⟩ (c_X1_atMost l ad v_k h_v_k (0 : Int64) v_hi) (cwV 2 hts (gV iX1_atMost (zin__r27 (.methodLink RX0 20 yX1_atMost) (List.mem_of_getElem? (i := 11) rfl))) rfl rfl rfl (by decide +kernel) ⟨Nat.le_of_ble_eq_true rfl, Nat.le_of_ble_eq_true rfl⟩) ⟨fun a U g mk q => ⟨q.1, kU_bl q.2⟩, (kU_rv hk h_v_k), fun U hU hW => ⟨rfl, kU_mvH hk hU hW⟩⟩ rfl rfl hl.1 rfl (lv_room (Nat.le_of_ble_eq_true rfl)) dX0_hasZero_24 ⟨Nat.zero_le _, Nat.zero_le _⟩)) (fun r_24 hr_24 => ?_)
    subst hr_24
    refine lv_if_eq (tgt := 34) hx hb dX0_hasZero_27 (by decide) (fun c_27 => ?_) (fun c_27 => ?_)
    · have hf : f_X0_hasZero v_k v_lo v_hi = (0 : Int32) := hf.trans (if_pos c_27)
      refine lv_iconst (v := 0) hx hb dX0_hasZero_34 (by decide) ?_
      exact W.zret hx hb hr rfl (fun t ht hW => ⟨_, rfl, hf.symm, ht⟩) (fun q hq => absurd hq List.not_mem_nil) dX0_hasZero_35
    · have hf : f_X0_hasZero v_k v_lo v_hi = (1 : Int32) := hf.trans (if_neg c_27)
      refine lv_iconst (v := 1) hx hb dX0_hasZero_30 (by decide) ?_
      refine lv_goto (tgt := 35) hx hb dX0_hasZero_31 (by decide) ?_
      exact W.zret hx hb hr rfl (fun t ht hW => ⟨_, rfl, hf.symm, ht⟩) (fun q hq => absurd hq List.not_mem_nil) dX0_hasZero_35
def f_X0_zeroIfNan_1 (v_k : Nat) (x1 : Int64) : Int64 := if (f_X1_isNan v_k x1) = 0 then x1 else (0 : Int64)
def f_X0_zeroIfNan (v_k : Nat) (v_lo : Int64) (v_hi : Int64) (x1 : Int64) : Int64 := (f_X0_zeroIfNan_1 v_k x1)
def zX0_zeroIfNan : List Cond := .code yX0_zeroIfNan cX0_zeroIfNan 3 (some .long) :: zall
theorem iX0_zeroIfNan : MWv RX0 yX0_zeroIfNan (.code yX0_zeroIfNan cX0_zeroIfNan 3 (some .long)) := ⟨(zin__r29 (.instanceMethod yX0_zeroIfNan) (List.mem_of_getElem? (i := 0) rfl)), (zin__r29 (.selects RX0 yX0_zeroIfNan yX0_zeroIfNan) (List.mem_of_getElem? (i := 1) rfl)), (zin__r26 (.initialized RX0) (List.mem_of_getElem? (i := 23) rfl)), (zin__r29 (.code yX0_zeroIfNan cX0_zeroIfNan 3 (some .long)) (List.mem_of_getElem? (i := 2) rfl))⟩
set_option maxHeartbeats 4000000 in
set_option maxRecDepth 100000 in
theorem c_X0_zeroIfNan (l : Launch) (ad : Nat → Nat) (v v_k : Nat) (h_v_k : v_k < 2) (v_lo v_hi : Int64) (x1 : Int64) : Met l yX0_zeroIfNan zX0_zeroIfNan ({ frames := 2, cells := 0, slots := 0, locals := 44 }) (va_Pc [.ref v, .long x1] (fun U => kU ad U ∧ iU v ad v_k v_lo v_hi U)) (vp_Sl (fun r => r = f_X0_zeroIfNan v_k v_lo v_hi x1)) 0 0 (fun _ => False) := by
  refine Met.ofW (cc := cX0_zeroIfNan) (maxL := 3) (ret := (some .long)) (by decide) rfl ?_
  intro p e s m args below meth c s₁ B hml hv
  obtain ⟨rfl, hk, hr_v⟩ := hv
  have hx := B.exec
  have hb := B.bytes
  have hr := B.returns
  have hts : ∀ w ∈ zall, w.before _ s = true := fun w h => atoms_spec (ws := zX0_zeroIfNan) B.pre w (List.mem_cons_of_mem _ h)
  have hown : s.vm.findClass RX0 = some m.cls := findClass_of_methodNamed B.named
  have hlocks := B.notSynchronized
  have hl := lv_entry ([.ref v, .long x1]) (n := 3) (Nat.le_of_ble_eq_true rfl)
  rw [lg_entry_eq]
  generalize (lg_sl ([.ref v, .long x1]) ++ List.replicate (3 - (lg_sl ([.ref v, .long x1])).length) Slot.unset).toArray = ls at hl ⊢
  have hl : lv_has ls 3 [(0, .ref v), (1, .long x1)] := hl
  have hf : f_X0_zeroIfNan v_k v_lo v_hi x1 = (f_X0_zeroIfNan_1 v_k x1) := rfl
  refine lv_aload_n hx hb dX0_zeroIfNan_0 rfl (lv_at hl 0 rfl) ?_
  refine vk_getf hx hb hr_v.2.1 va_S.rf hown (hts _ (zin__r27 (.fieldLink RX0 9 "ReckonBench$Interval" "kind" "LReckonBench$Kind;") (List.mem_of_getElem? (i := 4) rfl))) (fun _ h9 => h9) dX0_zeroIfNan_1 ?_
  refine lv_lload_n hx hb dX0_zeroIfNan_4 rfl (lv_at hl 1 rfl) ?_
  refine vp_callSi (va_Run.run (va_runV (As := [.long x1]) (rest := []) ⟨hx, hb, hml, hown, hts⟩ (c_X1_isNan l ad v_k h_v_k x1) (cwV 1 hts (gV iX1_isNan (zin__r28 (.methodLink RX0 79 yX1_isNan) (List.mem_of_getElem? (i := 15) rfl))) rfl rfl rfl (by decide +kernel) ⟨Nat.le_of_ble_eq_true rfl, Nat.le_of_ble_eq_true rfl⟩) ⟨fun a U g mk q => ⟨q.1, kU_bl q.2⟩, (kU_rv hk h_v_k), fun U hU hW => ⟨rfl, kU_mvH hk hU hW⟩⟩ rfl rfl hl.1 rfl (lv_room (Nat.le_of_ble_eq_true rfl)) dX0_zeroIfNan_5 ⟨Nat.zero_le _, Nat.zero_le _⟩)) (fun r_5 hr_5 => ?_)
  subst hr_5
  refine lv_if_eq (tgt := 15) hx hb dX0_zeroIfNan_8 (by decide) (fun c_8 => ?_) (fun c_8 => ?_)
  · have hf : f_X0_zeroIfNan v_k v_lo v_hi x1 = x1 := hf.trans (if_pos c_8)
    refine lv_lload_n hx hb dX0_zeroIfNan_15 rfl (lv_at hl 1 rfl) ?_
    exact W.lret hx hb hr (fun t ht hW => ⟨_, rfl, hf.symm, ht⟩) (fun q hq => absurd hq List.not_mem_nil) dX0_zeroIfNan_16
  · have hf : f_X0_zeroIfNan v_k v_lo v_hi x1 = (0 : Int64) := hf.trans (if_neg c_8)
    refine lv_lconst (v := 0) hx hb dX0_zeroIfNan_11 (by decide) ?_
    refine lv_goto (tgt := 16) hx hb dX0_zeroIfNan_12 (by decide) ?_
    exact W.lret hx hb hr (fun t ht hW => ⟨_, rfl, hf.symm, ht⟩) (fun q hq => absurd hq List.not_mem_nil) dX0_zeroIfNan_16
def f_X0_product (v_k : Nat) (v_lo : Int64) (v_hi : Int64) (x1 : Int64) (x2 : Int64) : Int64 := (f_X0_zeroIfNan v_k v_lo v_hi (f_X2_times v_k x1 x2))
def zX0_product : List Cond := .code yX0_product cX0_product 5 (some .long) :: zall
theorem iX0_product : MWv RX0 yX0_product (.code yX0_product cX0_product 5 (some .long)) := ⟨(zin__r28 (.instanceMethod yX0_product) (List.mem_of_getElem? (i := 19) rfl)), (zin__r28 (.selects RX0 yX0_product yX0_product) (List.mem_of_getElem? (i := 20) rfl)), (zin__r26 (.initialized RX0) (List.mem_of_getElem? (i := 23) rfl)), (zin__r28 (.code yX0_product cX0_product 5 (some .long)) (List.mem_of_getElem? (i := 21) rfl))⟩
set_option maxHeartbeats 4000000 in
set_option maxRecDepth 100000 in
theorem c_X0_product (l : Launch) (ad : Nat → Nat) (v v_k : Nat) (h_v_k : v_k < 2) (v_lo v_hi : Int64) (x1 : Int64) (x2 : Int64) : Met l yX0_product zX0_product ({ frames := 4, cells := 0, slots := 0, locals := 107 }) (va_Pc [.ref v, .long x1, .long x2] (fun U => kU ad U ∧ iU v ad v_k v_lo v_hi U)) (vp_Sl (fun r => r = f_X0_product v_k v_lo v_hi x1 x2)) 0 0 (fun _ => False) := by
  refine Met.ofW (cc := cX0_product) (maxL := 5) (ret := (some .long)) (by decide) rfl ?_
  intro p e s m args below meth c s₁ B hml hv
  obtain ⟨rfl, hk, hr_v⟩ := hv
  have hx := B.exec
  have hb := B.bytes
  have hr := B.returns
  have hts : ∀ w ∈ zall, w.before _ s = true := fun w h => atoms_spec (ws := zX0_product) B.pre w (List.mem_cons_of_mem _ h)
  have hown : s.vm.findClass RX0 = some m.cls := findClass_of_methodNamed B.named
  have hlocks := B.notSynchronized
  have hl := lv_entry ([.ref v, .long x1, .long x2]) (n := 5) (Nat.le_of_ble_eq_true rfl)
  rw [lg_entry_eq]
  generalize (lg_sl ([.ref v, .long x1, .long x2]) ++ List.replicate (5 - (lg_sl ([.ref v, .long x1, .long x2])).length) Slot.unset).toArray = ls at hl ⊢
  have hl : lv_has ls 5 [(0, .ref v), (1, .long x1), (3, .long x2)] := hl
  have hf : f_X0_product v_k v_lo v_hi x1 x2 = (f_X0_zeroIfNan v_k v_lo v_hi (f_X2_times v_k x1 x2)) := rfl
  refine lv_aload_n hx hb dX0_product_0 rfl (lv_at hl 0 rfl) ?_
  refine lv_aload_n hx hb dX0_product_1 rfl (lv_at hl 0 rfl) ?_
  refine vk_getf hx hb hr_v.2.1 va_S.rf hown (hts _ (zin__r27 (.fieldLink RX0 9 "ReckonBench$Interval" "kind" "LReckonBench$Kind;") (List.mem_of_getElem? (i := 4) rfl))) (fun _ h9 => h9) dX0_product_2 ?_
  refine lv_lload_n hx hb dX0_product_5 rfl (lv_at hl 1 rfl) ?_
  refine lv_lload_n hx hb dX0_product_6 rfl (lv_at hl 2 rfl) ?_
  refine vp_callSl (va_Run.run (va_runS (As := [.ref (ad v_k), .long x1, .long x2]) (rest := [.ref v]) ⟨hx, hb, hml, hown, hts⟩ (c_X2_times l ad v_k h_v_k x1 x2) (va_cwS 3 hts (gS iX2_times (zin__r28 (.methodLink RX0 69 yX2_times) (List.mem_of_getElem? (i := 22) rfl))) rfl rfl rfl (by decide +kernel) ⟨Nat.le_of_ble_eq_true rfl, Nat.le_of_ble_eq_true rfl⟩) ⟨fun a U g mk q => ⟨q.1, kU_bl q.2⟩, fun U hU hW => ⟨rfl, kU_mvH hk hU hW⟩⟩ rfl rfl hl.1 rfl (lv_room (Nat.le_of_ble_eq_true rfl)) dX0_product_7 ⟨Nat.zero_le _, Nat.zero_le _⟩)) (fun r_7 hr_7 => ?_)
  subst hr_7
  refine vp_callSl (va_Run.run (va_runV (As := [.long (f_X2_times v_k x1 x2)]) (rest := []) ⟨hx, hb, hml, hown, hts⟩ (c_X0_zeroIfNan l ad v v_k h_v_k v_lo v_hi (f_X2_times v_k x1 x2)) (cwV 1 hts (gV iX0_zeroIfNan (zin__r28 (.methodLink RX0 72 yX0_zeroIfNan) (List.mem_of_getElem? (i := 23) rfl))) rfl rfl rfl (by decide +kernel) ⟨Nat.le_of_ble_eq_true rfl, Nat.le_of_ble_eq_true rfl⟩) ⟨fun a U g mk q => ⟨q.1, kU_bl q.2.1, iU_bl q.2.2⟩, (iU_rv hr_v), fun U hU hW => ⟨rfl, ⟨kU_mvH hk hU hW, iU_mvH hr_v hU hW⟩⟩⟩ rfl rfl hl.1 rfl (lv_room (Nat.le_of_ble_eq_true rfl)) dX0_product_10 ⟨Nat.zero_le _, Nat.zero_le _⟩)) (fun r_10 hr_10 => ?_)
  subst hr_10
  exact W.lret hx hb hr (fun t ht hW => ⟨_, rfl, hf.symm, ht⟩) (fun q hq => absurd hq List.not_mem_nil) dX0_product_13
def f_X0_quotient (v_k : Nat) (v_lo : Int64) (v_hi : Int64) (x1 : Int64) (x2 : Int64) : Int64 := (f_X0_zeroIfNan v_k v_lo v_hi (f_X2_over v_k x1 x2))
def zX0_quotient : List Cond := .code yX0_quotient cX0_quotient 5 (some .long) :: zall
theorem iX0_quotient : MWv RX0 yX0_quotient (.code yX0_quotient cX0_quotient 5 (some .long)) := ⟨(zin__r29 (.instanceMethod yX0_quotient) (List.mem_of_getElem? (i := 10) rfl)), (zin__r29 (.selects RX0 yX0_quotient yX0_quotient) (List.mem_of_getElem? (i := 11) rfl)), (zin__r26 (.initialized RX0) (List.mem_of_getElem? (i := 23) rfl)), (zin__r29 (.code yX0_quotient cX0_quotient 5 (some .long)) (List.mem_of_getElem? (i := 12) rfl))⟩
set_option maxHeartbeats 4000000 in
set_option maxRecDepth 100000 in
theorem c_X0_quotient (l : Launch) (ad : Nat → Nat) (v v_k : Nat) (h_v_k : v_k < 2) (v_lo v_hi : Int64) (x1 : Int64) (x2 : Int64) : Met l yX0_quotient zX0_quotient ({ frames := 4, cells := 0, slots := 0, locals := 106 }) (va_Pc [.ref v, .long x1, .long x2] (fun U => kU ad U ∧ iU v ad v_k v_lo v_hi U)) (vp_Sl (fun r => r = f_X0_quotient v_k v_lo v_hi x1 x2)) 0 0 (fun _ => False) := by
  refine Met.ofW (cc := cX0_quotient) (maxL := 5) (ret := (some .long)) (by decide) rfl ?_
  intro p e s m args below meth c s₁ B hml hv
  obtain ⟨rfl, hk, hr_v⟩ := hv
  have hx := B.exec
  have hb := B.bytes
  have hr := B.returns
  have hts : ∀ w ∈ zall, w.before _ s = true := fun w h => atoms_spec (ws := zX0_quotient) B.pre w (List.mem_cons_of_mem _ h)
  have hown : s.vm.findClass RX0 = some m.cls := findClass_of_methodNamed B.named
  have hlocks := B.notSynchronized
  have hl := lv_entry ([.ref v, .long x1, .long x2]) (n := 5) (Nat.le_of_ble_eq_true rfl)
  rw [lg_entry_eq]
  generalize (lg_sl ([.ref v, .long x1, .long x2]) ++ List.replicate (5 - (lg_sl ([.ref v, .long x1, .long x2])).length) Slot.unset).toArray = ls at hl ⊢
  have hl : lv_has ls 5 [(0, .ref v), (1, .long x1), (3, .long x2)] := hl
  have hf : f_X0_quotient v_k v_lo v_hi x1 x2 = (f_X0_zeroIfNan v_k v_lo v_hi (f_X2_over v_k x1 x2)) := rfl
  refine lv_aload_n hx hb dX0_quotient_0 rfl (lv_at hl 0 rfl) ?_
  refine lv_aload_n hx hb dX0_quotient_1 rfl (lv_at hl 0 rfl) ?_
  refine vk_getf hx hb hr_v.2.1 va_S.rf hown (hts _ (zin__r27 (.fieldLink RX0 9 "ReckonBench$Interval" "kind" "LReckonBench$Kind;") (List.mem_of_getElem? (i := 4) rfl))) (fun _ h9 => h9) dX0_quotient_2 ?_
  refine lv_lload_n hx hb dX0_quotient_5 rfl (lv_at hl 1 rfl) ?_
  refine lv_lload_n hx hb dX0_quotient_6 rfl (lv_at hl 2 rfl) ?_
  refine vp_callSl (va_Run.run (va_runS (As := [.ref (ad v_k), .long x1, .long x2]) (rest := [.ref v]) ⟨hx, hb, hml, hown, hts⟩ (c_X2_over l ad v_k h_v_k x1 x2) (va_cwS 3 hts (gS iX2_over (zin__r29 (.methodLink RX0 76 yX2_over) (List.mem_of_getElem? (i := 13) rfl))) rfl rfl rfl (by decide +kernel) ⟨Nat.le_of_ble_eq_true rfl, Nat.le_of_ble_eq_true rfl⟩) ⟨fun a U g mk q => ⟨q.1, kU_bl q.2⟩, fun U hU hW => ⟨rfl, kU_mvH hk hU hW⟩⟩ rfl rfl hl.1 rfl (lv_room (Nat.le_of_ble_eq_true rfl)) dX0_quotient_7 ⟨Nat.zero_le _, Nat.zero_le _⟩)) (fun r_7 hr_7 => ?_)
  subst hr_7
  refine vp_callSl (va_Run.run (va_runV (As := [.long (f_X2_over v_k x1 x2)]) (rest := []) ⟨hx, hb, hml, hown, hts⟩ (c_X0_zeroIfNan l ad v v_k h_v_k v_lo v_hi (f_X2_over v_k x1 x2)) (cwV 1 hts (gV iX0_zeroIfNan (zin__r28 (.methodLink RX0 72 yX0_zeroIfNan) (List.mem_of_getElem? (i := 23) rfl))) rfl rfl rfl (by decide +kernel) ⟨Nat.le_of_ble_eq_true rfl, Nat.le_of_ble_eq_true rfl⟩) ⟨fun a U g mk q => ⟨q.1, kU_bl q.2.1, iU_bl q.2.2⟩, (iU_rv hr_v), fun U hU hW => ⟨rfl, ⟨kU_mvH hk hU hW, iU_mvH hr_v hU hW⟩⟩⟩ rfl rfl hl.1 rfl (lv_room (Nat.le_of_ble_eq_true rfl)) dX0_quotient_10 ⟨Nat.zero_le _, Nat.zero_le _⟩)) (fun r_10 hr_10 => ?_)
  subst hr_10
  exact W.lret hx hb hr (fun t ht hW => ⟨_, rfl, hf.symm, ht⟩) (fun q hq => absurd hq List.not_mem_nil) dX0_quotient_13
def f_X3_has_1 (w_n : Nat) (x1 : Int32) : Int32 := if (nI w_n) ≤ x1 then (0 : Int32) else (1 : Int32)
def f_X3_has_2 (w_n : Nat) (x1 : Int32) : Int32 := if x1 < 0 then (0 : Int32) else (f_X3_has_1 w_n x1)
def f_X3_has (w_k : Nat) (w_n : Nat) (w_f : Nat → Int64) (x1 : Int32) : Int32 := (f_X3_has_2 w_n x1)
def zX3_has : List Cond := .code yX3_has cX3_has 2 (some .boolean) :: zall
theorem iX3_has : MWv RX3 yX3_has (.code yX3_has cX3_has 2 (some .boolean)) := ⟨(zin__r5 (.instanceMethod yX3_has) (List.mem_of_getElem? (i := 4) rfl)), (zin__r5 (.selects RX3 yX3_has yX3_has) (List.mem_of_getElem? (i := 5) rfl)), (zin__r3 (.initialized RX3) (List.mem_of_getElem? (i := 15) rfl)), (zin__r5 (.code yX3_has cX3_has 2 (some .boolean)) (List.mem_of_getElem? (i := 6) rfl))⟩
set_option maxHeartbeats 4000000 in
set_option maxRecDepth 100000 in
theorem c_X3_has (l : Launch) (ad : Nat → Nat) (w w_na w_n : Nat) (w_f : Nat → Int64) (w_k : Nat) (h_w_k : w_k < 2) (x1 : Int32) : Met l yX3_has zX3_has ({ frames := 0, cells := 0, slots := 0, locals := 0 }) (va_Pc [.ref w, .int x1] (fun U => kU ad U ∧ rU w ad w_k w_na w_n w_f U)) (vp_Si (fun r => r = f_X3_has w_k w_n w_f x1)) 0 0 (fun _ => False) := by
  refine Met.ofW (cc := cX3_has) (maxL := 2) (ret := (some .boolean)) (by decide) rfl ?_
  intro p e s m args below meth c s₁ B hml hv
  obtain ⟨rfl, hk, hr_w⟩ := hv
  have hx := B.exec
  have hb := B.bytes
  have hr := B.returns
  have hts : ∀ w ∈ zall, w.before _ s = true := fun w h => atoms_spec (ws := zX3_has) B.pre w (List.mem_cons_of_mem _ h)
  have hown : s.vm.findClass RX3 = some m.cls := findClass_of_methodNamed B.named
  have hlocks := B.notSynchronized
  have hl := lv_entry ([.ref w, .int x1]) (n := 2) (Nat.le_of_ble_eq_true rfl)
  rw [lg_entry_eq]
  generalize (lg_sl ([.ref w, .int x1]) ++ List.replicate (2 - (lg_sl ([.ref w, .int x1])).length) Slot.unset).toArray = ls at hl ⊢
  have hl : lv_has ls 2 [(0, .ref w), (1, .int x1)] := hl
  have hf : f_X3_has w_k w_n w_f x1 = (f_X3_has_2 w_n x1) := rfl
  refine lv_iload_n hx hb dX3_has_0 rfl (lv_at hl 1 rfl) ?_
  refine lv_if_lt (tgt := 17) hx hb dX3_has_1 (by decide) (fun c_1 => ?_) (fun c_1 => ?_)
  · have hf : f_X3_has w_k w_n w_f x1 = (0 : Int32) := hf.trans (if_pos c_1)
    refine lv_iconst (v := 0) hx hb dX3_has_17 (by decide) ?_
    exact W.zret hx hb hr rfl (fun t ht hW => ⟨_, rfl, hf.symm, ht⟩) (fun q hq => absurd hq List.not_mem_nil) dX3_has_18
  · have hf : f_X3_has w_k w_n w_f x1 = (f_X3_has_1 w_n x1) := hf.trans (if_neg c_1)
    refine lv_iload_n hx hb dX3_has_4 rfl (lv_at hl 1 rfl) ?_
    refine lv_aload_n hx hb dX3_has_5 rfl (lv_at hl 0 rfl) ?_
    refine vk_getf hx hb hr_w.2.2.1 va_S.rf hown (hts _ (zin__r4 (.fieldLink RX3 15 "ReckonBench$Row" "numbers" "[J") (List.mem_of_getElem? (i := 3) rfl))) (fun _ h9 => h9) dX3_has_6 ?_
    refine va_tlen hx hb hr_w.2.2.2 va_S.rf (v := (nI w_n)) rfl dX3_has_9 ?_
    refine lv_icmp_ge (tgt := 17) hx hb dX3_has_10 (by decide) (fun c_10 => ?_) (fun c_10 => ?_)
    · have hf : f_X3_has w_k w_n w_f x1 = (0 : Int32) := hf.trans (if_pos c_10)
      refine lv_iconst (v := 0) hx hb dX3_has_17 (by decide) ?_
      exact W.zret hx hb hr rfl (fun t ht hW => ⟨_, rfl, hf.symm, ht⟩) (fun q hq => absurd hq List.not_mem_nil) dX3_has_18
    · have hf : f_X3_has w_k w_n w_f x1 = (1 : Int32) := hf.trans (if_neg c_10)
      refine lv_iconst (v := 1) hx hb dX3_has_13 (by decide) ?_
      refine lv_goto (tgt := 18) hx hb dX3_has_14 (by decide) ?_
      exact W.zret hx hb hr rfl (fun t ht hW => ⟨_, rfl, hf.symm, ht⟩) (fun q hq => absurd hq List.not_mem_nil) dX3_has_18
def f_X3_hasPair_1 (w_n : Nat) (x1 : Int32) : Int32 := if ((nI w_n) / (2 : Int32)) ≤ x1 then (0 : Int32) else (1 : Int32)
def f_X3_hasPair_2 (w_n : Nat) (x1 : Int32) : Int32 := if x1 < 0 then (0 : Int32) else (f_X3_hasPair_1 w_n x1)
def f_X3_hasPair (w_k : Nat) (w_n : Nat) (w_f : Nat → Int64) (x1 : Int32) : Int32 := (f_X3_hasPair_2 w_n x1)
def zX3_hasPair : List Cond := .code yX3_hasPair cX3_hasPair 2 (some .boolean) :: zall
theorem iX3_hasPair : MWv RX3 yX3_hasPair (.code yX3_hasPair cX3_hasPair 2 (some .boolean)) := ⟨(zin__r26 (.instanceMethod yX3_hasPair) (List.mem_of_getElem? (i := 14) rfl)), (zin__r26 (.selects RX3 yX3_hasPair yX3_hasPair) (List.mem_of_getElem? (i := 15) rfl)), (zin__r3 (.initialized RX3) (List.mem_of_getElem? (i := 15) rfl)), (zin__r26 (.code yX3_hasPair cX3_hasPair 2 (some .boolean)) (List.mem_of_getElem? (i := 16) rfl))⟩
set_option maxHeartbeats 4000000 in
set_option maxRecDepth 100000 in
theorem c_X3_hasPair (l : Launch) (ad : Nat → Nat) (w w_na w_n : Nat) (w_f : Nat → Int64) (w_k : Nat) (h_w_k : w_k < 2) (x1 : Int32) : Met l yX3_hasPair zX3_hasPair ({ frames := 0, cells := 0, slots := 0, locals := 0 }) (va_Pc [.ref w, .int x1] (fun U => kU ad U ∧ rU w ad w_k w_na w_n w_f U)) (vp_Si (fun r => r = f_X3_hasPair w_k w_n w_f x1)) 0 0 (fun _ => False) := by
  refine Met.ofW (cc := cX3_hasPair) (maxL := 2) (ret := (some .boolean)) (by decide) rfl ?_
  intro p e s m args below meth c s₁ B hml hv
  obtain ⟨rfl, hk, hr_w⟩ := hv
  have hx := B.exec
  have hb := B.bytes
  have hr := B.returns
  have hts : ∀ w ∈ zall, w.before _ s = true := fun w h => atoms_spec (ws := zX3_hasPair) B.pre w (List.mem_cons_of_mem _ h)
  have hown : s.vm.findClass RX3 = some m.cls := findClass_of_methodNamed B.named
  have hlocks := B.notSynchronized
  have hl := lv_entry ([.ref w, .int x1]) (n := 2) (Nat.le_of_ble_eq_true rfl)
  rw [lg_entry_eq]
  generalize (lg_sl ([.ref w, .int x1]) ++ List.replicate (2 - (lg_sl ([.ref w, .int x1])).length) Slot.unset).toArray = ls at hl ⊢
  have hl : lv_has ls 2 [(0, .ref w), (1, .int x1)] := hl
  have hf : f_X3_hasPair w_k w_n w_f x1 = (f_X3_hasPair_2 w_n x1) := rfl
  refine lv_iload_n hx hb dX3_hasPair_0 rfl (lv_at hl 1 rfl) ?_
  refine lv_if_lt (tgt := 19) hx hb dX3_hasPair_1 (by decide) (fun c_1 => ?_) (fun c_1 => ?_)
  · have hf : f_X3_hasPair w_k w_n w_f x1 = (0 : Int32) := hf.trans (if_pos c_1)
    refine lv_iconst (v := 0) hx hb dX3_hasPair_19 (by decide) ?_
    exact W.zret hx hb hr rfl (fun t ht hW => ⟨_, rfl, hf.symm, ht⟩) (fun q hq => absurd hq List.not_mem_nil) dX3_hasPair_20
  · have hf : f_X3_hasPair w_k w_n w_f x1 = (f_X3_hasPair_1 w_n x1) := hf.trans (if_neg c_1)
    refine lv_iload_n hx hb dX3_hasPair_4 rfl (lv_at hl 1 rfl) ?_
    refine lv_aload_n hx hb dX3_hasPair_5 rfl (lv_at hl 0 rfl) ?_
    refine vk_getf hx hb hr_w.2.2.1 va_S.rf hown (hts _ (zin__r4 (.fieldLink RX3 15 "ReckonBench$Row" "numbers" "[J") (List.mem_of_getElem? (i := 3) rfl))) (fun _ h9 => h9) dX3_hasPair_6 ?_
    refine va_tlen hx hb hr_w.2.2.2 va_S.rf (v := (nI w_n)) rfl dX3_hasPair_9 ?_
    refine lv_iconst (v := 2) hx hb dX3_hasPair_10 (by decide) ?_
    refine lv_idiv hx hb dX3_hasPair_11 (by decide) ?_
    refine lv_icmp_ge (tgt := 19) hx hb dX3_hasPair_12 (by decide) (fun c_12 => ?_) (fun c_12 => ?_)
    · have hf : f_X3_hasPair w_k w_n w_f x1 = (0 : Int32) := hf.trans (if_pos c_12)
      refine lv_iconst (v := 0) hx hb dX3_hasPair_19 (by decide) ?_
      exact W.zret hx hb hr rfl (fun t ht hW => ⟨_, rfl, hf.symm, ht⟩) (fun q hq => absurd hq List.not_mem_nil) dX3_hasPair_20
    · have hf : f_X3_hasPair w_k w_n w_f x1 = (1 : Int32) := hf.trans (if_neg c_12)
      refine lv_iconst (v := 1) hx hb dX3_hasPair_15 (by decide) ?_
      refine lv_goto (tgt := 20) hx hb dX3_hasPair_16 (by decide) ?_
      exact W.zret hx hb hr rfl (fun t ht hW => ⟨_, rfl, hf.symm, ht⟩) (fun q hq => absurd hq List.not_mem_nil) dX3_hasPair_20
def f_X3_isBeyond_1 (w_k : Nat) (x1 : Int64) (x2 : Int64) (x3 : Int32) : Int32 := if x3 = 0 then (f_X1_isBelow w_k x1 x2) else (f_X1_isBelow w_k x2 x1)
def f_X3_isBeyond (w_k : Nat) (w_n : Nat) (w_f : Nat → Int64) (x1 : Int64) (x2 : Int64) (x3 : Int32) : Int32 := (f_X3_isBeyond_1 w_k x1 x2 x3)
def zX3_isBeyond : List Cond := .code yX3_isBeyond cX3_isBeyond 6 (some .boolean) :: zall
theorem iX3_isBeyond : MWv RX3 yX3_isBeyond (.code yX3_isBeyond cX3_isBeyond 6 (some .boolean)) := ⟨(zin__r23 (.instanceMethod yX3_isBeyond) (List.mem_of_getElem? (i := 17) rfl)), (zin__r23 (.selects RX3 yX3_isBeyond yX3_isBeyond) (List.mem_of_getElem? (i := 18) rfl)), (zin__r3 (.initialized RX3) (List.mem_of_getElem? (i := 15) rfl)), (zin__r23 (.code yX3_isBeyond cX3_isBeyond 6 (some .boolean)) (List.mem_of_getElem? (i := 19) rfl))⟩
set_option maxHeartbeats 4000000 in
set_option maxRecDepth 100000 in
theorem c_X3_isBeyond (l : Launch) (ad : Nat → Nat) (w w_na w_n : Nat) (w_f : Nat → Int64) (w_k : Nat) (h_w_k : w_k < 2) (x1 : Int64) (x2 : Int64) (x3 : Int32) : Met l yX3_isBeyond zX3_isBeyond ({ frames := 3, cells := 0, slots := 0, locals := 68 }) (va_Pc [.ref w, .long x1, .long x2, .int x3] (fun U => kU ad U ∧ rU w ad w_k w_na w_n w_f U)) (vp_Si (fun r => r = f_X3_isBeyond w_k w_n w_f x1 x2 x3)) 0 0 (fun _ => False) := by
  refine Met.ofW (cc := cX3_isBeyond) (maxL := 6) (ret := (some .boolean)) (by decide) rfl ?_
  intro p e s m args below meth c s₁ B hml hv
  obtain ⟨rfl, hk, hr_w⟩ := hv
  have hx := B.exec
  have hb := B.bytes
  have hr := B.returns
  have hts : ∀ w ∈ zall, w.before _ s = true := fun w h => atoms_spec (ws := zX3_isBeyond) B.pre w (List.mem_cons_of_mem _ h)
  have hown : s.vm.findClass RX3 = some m.cls := findClass_of_methodNamed B.named
  have hlocks := B.notSynchronized
  have hl := lv_entry ([.ref w, .long x1, .long x2, .int x3]) (n := 6) (Nat.le_of_ble_eq_true rfl)
  rw [lg_entry_eq]
  generalize (lg_sl ([.ref w, .long x1, .long x2, .int x3]) ++ List.replicate (6 - (lg_sl ([.ref w, .long x1, .long x2, .int x3])).length) Slot.unset).toArray = ls at hl ⊢
  have hl : lv_has ls 6 [(0, .ref w), (1, .long x1), (3, .long x2), (5, .int x3)] := hl
  have hf : f_X3_isBeyond w_k w_n w_f x1 x2 x3 = (f_X3_isBeyond_1 w_k x1 x2 x3) := rfl
  refine lv_iload hx hb dX3_isBeyond_0 (lv_at hl 3 rfl) ?_
  refine lv_if_eq (tgt := 17) hx hb dX3_isBeyond_2 (by decide) (fun c_2 => ?_) (fun c_2 => ?_)
  · have hf : f_X3_isBeyond w_k w_n w_f x1 x2 x3 = (f_X1_isBelow w_k x1 x2) := hf.trans (if_pos c_2)
    refine lv_aload_n hx hb dX3_isBeyond_17 rfl (lv_at hl 0 rfl) ?_
    refine vk_getf hx hb hr_w.2.1 va_S.rf hown (hts _ (zin__r4 (.fieldLink RX3 9 "ReckonBench$Row" "kind" "LReckonBench$Kind;") (List.mem_of_getElem? (i := 2) rfl))) (fun _ h9 => h9) dX3_isBeyond_18 ?_
    refine lv_lload_n hx hb dX3_isBeyond_21 rfl (lv_at hl 1 rfl) ?_
    refine lv_lload_n hx hb dX3_isBeyond_22 rfl (lv_at hl 2 rfl) ?_
    refine vp_callSi (va_Run.run (va_runV (As := [.long x1, .long x2]) (rest := []) ⟨hx, hb, hml, hown, hts⟩ (c_X1_isBelow l ad w_k h_w_k x1 x2) (cwV 2 hts (gV iX1_isBelow (zin__r23 (.methodLink RX3 45 yX1_isBelow) (List.mem_of_getElem? (i := 20) rfl))) rfl rfl rfl (by decide +kernel) ⟨Nat.le_of_ble_eq_true rfl, Nat.le_of_ble_eq_true rfl⟩) ⟨fun a U g mk q => ⟨q.1, kU_bl q.2⟩, (kU_rv hk h_w_k), fun U hU hW => ⟨rfl, kU_mvH hk hU hW⟩⟩ rfl rfl hl.1 rfl (lv_room (Nat.le_of_ble_eq_true rfl)) dX3_isBeyond_23 ⟨Nat.zero_le _, Nat.zero_le _⟩)) (fun r_23 hr_23 => ?_)
    subst hr_23
    exact W.zret hx hb hr (f01_nar f01_isBelow) (fun t ht hW => ⟨_, rfl, hf.symm, ht⟩) (fun q hq => absurd hq List.not_mem_nil) dX3_isBeyond_26
  · have hf : f_X3_isBeyond w_k w_n w_f x1 x2 x3 = (f_X1_isBelow w_k x2 x1) := hf.trans (if_neg c_2)
    refine lv_aload_n hx hb dX3_isBeyond_5 rfl (lv_at hl 0 rfl) ?_
    refine vk_getf hx hb hr_w.2.1 va_S.rf hown (hts _ (zin__r4 (.fieldLink RX3 9 "ReckonBench$Row" "kind" "LReckonBench$Kind;") (List.mem_of_getElem? (i := 2) rfl))) (fun _ h9 => h9) dX3_isBeyond_6 ?_
    refine lv_lload_n hx hb dX3_isBeyond_9 rfl (lv_at hl 2 rfl) ?_
    refine lv_lload_n hx hb dX3_isBeyond_10 rfl (lv_at hl 1 rfl) ?_
    refine vp_callSi (va_Run.run (va_runV (As := [.long x2, .long x1]) (rest := []) ⟨hx, hb, hml, hown, hts⟩ (c_X1_isBelow l ad w_k h_w_k x2 x1) (cwV 2 hts (gV iX1_isBelow (zin__r23 (.methodLink RX3 45 yX1_isBelow) (List.mem_of_getElem? (i := 20) rfl))) rfl rfl rfl (by decide +kernel) ⟨Nat.le_of_ble_eq_true rfl, Nat.le_of_ble_eq_true rfl⟩) ⟨fun a U g mk q => ⟨q.1, kU_bl q.2⟩, (kU_rv hk h_w_k), fun U hU hW => ⟨rfl, kU_mvH hk hU hW⟩⟩ rfl rfl hl.1 rfl (lv_room (Nat.le_of_ble_eq_true rfl)) dX3_isBeyond_11 ⟨Nat.zero_le _, Nat.zero_le _⟩)) (fun r_11 hr_11 => ?_)
    subst hr_11
    refine lv_goto (tgt := 26) hx hb dX3_isBeyond_14 (by decide) ?_
    exact W.zret hx hb hr (f01_nar f01_isBelow) (fun t ht hW => ⟨_, rfl, hf.symm, ht⟩) (fun q hq => absurd hq List.not_mem_nil) dX3_isBeyond_26
def f_X3_firstExtreme_1 (w_k : Nat) (w_n : Nat) (w_f : Nat → Int64) (x1 : Int32) (q2 : Int32) (q3 : Int32) (rec_4 : Int32 → Int32 → Int32) (v4_1 : Int64) : Int32 := if (f_X3_isBeyond w_k w_n w_f v4_1 (w_f q2.toNatClampNeg) x1) = 0 then (rec_4 q2 (q3 + (1 : Int32))) else (rec_4 q3 (q3 + (1 : Int32)))
def f_X3_firstExtreme_2 (w_k : Nat) (w_n : Nat) (w_f : Nat → Int64) (x1 : Int32) (q2 : Int32) (q3 : Int32) (rec_4 : Int32 → Int32 → Int32) (v4_1 : Int64) : Int32 := if q2 = (-1 : Int32) then (rec_4 q3 (q3 + (1 : Int32))) else (f_X3_firstExtreme_1 w_k w_n w_f x1 q2 q3 rec_4 v4_1)
def f_X3_firstExtreme_3 (w_k : Nat) (w_n : Nat) (w_f : Nat → Int64) (x1 : Int32) (q2 : Int32) (q3 : Int32) (rec_4 : Int32 → Int32 → Int32) (v4_1 : Int64) : Int32 := if (f_X1_isNan w_k v4_1) = 0 then (f_X3_firstExtreme_2 w_k w_n w_f x1 q2 q3 rec_4 v4_1) else (rec_4 q2 (q3 + (1 : Int32)))
def f_X3_firstExtreme_4 (w_k : Nat) (w_n : Nat) (w_f : Nat → Int64) (x1 : Int32) (q2 : Int32) (q3 : Int32) (rec_4 : Int32 → Int32 → Int32) : Int32 := if (nI w_n) ≤ q3 then q2 else (f_X3_firstExtreme_3 w_k w_n w_f x1 q2 q3 rec_4 (w_f q3.toNatClampNeg))
def f_X3_firstExtreme_L4 (w_k : Nat) (w_n : Nat) (w_f : Nat → Int64) (x1 : Int32) : Nat → Int32 → Int32 → Int32
  | 0, _, _ => 0
  | n + 1, q2, q3 => (f_X3_firstExtreme_4 w_k w_n w_f x1 q2 q3 (f_X3_firstExtreme_L4 w_k w_n w_f x1 n))
def f_X3_firstExtreme (w_k : Nat) (w_n : Nat) (w_f : Nat → Int64) (x1 : Int32) : Int32 := (f_X3_firstExtreme_L4 w_k w_n w_f x1 501 (-1 : Int32) (0 : Int32))
def zX3_firstExtreme : List Cond := .code yX3_firstExtreme cX3_firstExtreme 6 (some .int) :: zall
theorem iX3_firstExtreme : MWv RX3 yX3_firstExtreme (.code yX3_firstExtreme cX3_firstExtreme 6 (some .int)) := ⟨(zin__r23 (.instanceMethod yX3_firstExtreme) (List.mem_of_getElem? (i := 12) rfl)), (zin__r23 (.selects RX3 yX3_firstExtreme yX3_firstExtreme) (List.mem_of_getElem? (i := 13) rfl)), (zin__r3 (.initialized RX3) (List.mem_of_getElem? (i := 15) rfl)), (zin__r23 (.code yX3_firstExtreme cX3_firstExtreme 6 (some .int)) (List.mem_of_getElem? (i := 14) rfl))⟩
set_option maxHeartbeats 4000000 in
set_option maxRecDepth 100000 in
theorem c_X3_firstExtreme (l : Launch) (ad : Nat → Nat) (w w_na w_n : Nat) (w_f : Nat → Int64) (w_k : Nat) (h_w_k : w_k < 2) (x1 : Int32) (hn : w_n ≤ 500) : Met l yX3_firstExtreme zX3_firstExtreme ({ frames := 4, cells := 0, slots := 0, locals := 93 }) (va_Pc [.ref w, .int x1] (fun U => kU ad U ∧ rU w ad w_k w_na w_n w_f U)) (vp_Si (fun r => r = f_X3_firstExtreme w_k w_n w_f x1)) 0 0 (fun _ => False) := by
  refine Met.ofW (cc := cX3_firstExtreme) (maxL := 6) (ret := (some .int)) (by decide) rfl ?_
  intro p e s m args below meth c s₁ B hml hv
  obtain ⟨rfl, hk, hr_w⟩ := hv
  have hx := B.exec
  have hb := B.bytes
  have hr := B.returns
  have hts : ∀ w ∈ zall, w.before _ s = true := fun w h => atoms_spec (ws := zX3_firstExtreme) B.pre w (List.mem_cons_of_mem _ h)
  have hown : s.vm.findClass RX3 = some m.cls := findClass_of_methodNamed B.named
  have hlocks := B.notSynchronized
  have hl := lv_entry ([.ref w, .int x1]) (n := 6) (Nat.le_of_ble_eq_true rfl)
  rw [lg_entry_eq]
  generalize (lg_sl ([.ref w, .int x1]) ++ List.replicate (6 - (lg_sl ([.ref w, .int x1])).length) Slot.unset).toArray = ls at hl ⊢
  have hl : lv_has ls 6 [(0, .ref w), (1, .int x1)] := hl
  have hf : f_X3_firstExtreme w_k w_n w_f x1 = (f_X3_firstExtreme_L4 w_k w_n w_f x1 501 (-1 : Int32) (0 : Int32)) := rfl
  refine lv_iconst (v := -1) hx hb dX3_firstExtreme_0 (by decide) ?_
  refine lv_istore_n (lv' := [(2, .int (-1 : Int32)), (0, .ref w), (1, .int x1)]) hx hb dX3_firstExtreme_1 rfl hl (by decide) rfl (fun ls hl => ?_)
  refine lv_iconst (v := 0) hx hb dX3_firstExtreme_2 (by decide) ?_
  refine lv_istore_n (lv' := [(3, .int (0 : Int32)), (2, .int (-1 : Int32)), (0, .ref w), (1, .int x1)]) hx hb dX3_firstExtreme_3 rfl hl (by decide) rfl (fun ls hl => ?_)
  refine W_loop (α := Int32 × Int32) (pcJ := 4) (nL := 6) (fun n v => f_X3_firstExtreme w_k w_n w_f x1 = f_X3_firstExtreme_L4 w_k w_n w_f x1 n v.1 v.2 ∧ (eInv w_n v.1 v.2 n)) (fun v => []) (fun v => [(0, .ref w), (1, .int x1), (2, .int v.1), (3, .int v.2)]) (fun v hC => ?_) (fun n_4 ih_4 v ls hC hl => ?_) 501 ((-1 : Int32), (0 : Int32)) ls ⟨hf, eInv.init⟩ (lv_sub hl [2, 3, 1, 0] rfl)
  · obtain ⟨q2, q3⟩ := v
    have hJ : (eInv w_n q2 q3 (0 : Nat)) := hC.2
    exact eInv.zero hJ
  · obtain ⟨q2, q3⟩ := v
    obtain ⟨hf, hJ⟩ : (f_X3_firstExtreme w_k w_n w_f x1 = f_X3_firstExtreme_L4 w_k w_n w_f x1 (n_4 + 1) q2 q3) ∧ (eInv w_n q2 q3 (Nat.succ n_4)) := hC
    obtain ⟨rec_4, hrec_4⟩ : ∃ z, z = f_X3_firstExtreme_L4 w_k w_n w_f x1 n_4 := ⟨_, rfl⟩
    have hf : f_X3_firstExtreme w_k w_n w_f x1 = (f_X3_firstExtreme_4 w_k w_n w_f x1 q2 q3 rec_4) := by rw [hrec_4]; exact hf
    have hl : lv_has ls 6 [(0, .ref w), (1, .int x1), (2, .int q2), (3, .int q3)] := hl
    refine lv_iload_n hx hb dX3_firstExtreme_4 rfl (lv_at hl 3 rfl) ?_
    refine lv_aload_n hx hb dX3_firstExtreme_5 rfl (lv_at hl 0 rfl) ?_
    refine vk_getf hx hb hr_w.2.2.1 va_S.rf hown (hts _ (zin__r4 (.fieldLink RX3 15 "ReckonBench$Row" "numbers" "[J") (List.mem_of_getElem? (i := 3) rfl))) (fun _ h9 => h9) dX3_firstExtreme_6 ?_
    refine va_tlen hx hb hr_w.2.2.2 va_S.rf (v := (nI w_n)) rfl dX3_firstExtreme_9 ?_
    refine lv_icmp_ge (tgt := 65) hx hb dX3_firstExtreme_10 (by decide) (fun c_10 => ?_) (fun c_10 => ?_)
    · have hf : f_X3_firstExtreme w_k w_n w_f x1 = q2 := hf.trans (if_pos c_10)
      refine lv_iload_n hx hb dX3_firstExtreme_65 rfl (lv_at hl 2 rfl) ?_
      exact W.iret hx hb hr (fun t ht hW => ⟨_, rfl, hf.symm, ht⟩) (fun q hq => absurd hq List.not_mem_nil) dX3_firstExtreme_66
    · have hf : f_X3_firstExtreme w_k w_n w_f x1 = (f_X3_firstExtreme_3 w_k w_n w_f x1 q2 q3 rec_4 (w_f q3.toNatClampNeg)) := hf.trans (if_neg c_10)
      refine lv_aload_n hx hb dX3_firstExtreme_13 rfl (lv_at hl 0 rfl) ?_
      refine vk_getf hx hb hr_w.2.2.1 va_S.rf hown (hts _ (zin__r4 (.fieldLink RX3 15 "ReckonBench$Row" "numbers" "[J") (List.mem_of_getElem? (i := 3) rfl))) (fun _ h9 => h9) dX3_firstExtreme_14 ?_
      refine lv_iload_n hx hb dX3_firstExtreme_17 rfl (lv_at hl 3 rfl) ?_
      refine va_tl hx hb hr_w.2.2.2 va_S.rf (eInv.at hn hJ c_10) (v := .long (w_f q3.toNatClampNeg)) rfl dX3_firstExtreme_18 ?_
      refine lv_topl (fun v4_1 e_v4_1 => ?_)
      have hf : f_X3_firstExtreme w_k w_n w_f x1 = (f_X3_firstExtreme_3 w_k w_n w_f x1 q2 q3 rec_4 v4_1) := hf.trans (congrArg (fun z => (f_X3_firstExtreme_3 w_k w_n w_f x1 q2 q3 rec_4 z)) e_v4_1.symm)
      refine lv_lstore (lv' := [(4, .long v4_1), (0, .ref w), (1, .int x1), (2, .int q2), (3, .int q3)]) hx hb dX3_firstExtreme_19 hl (by decide) rfl (fun ls hl => ?_)
      refine lv_aload_n hx hb dX3_firstExtreme_21 rfl (lv_at hl 1 rfl) ?_
      refine vk_getf hx hb hr_w.2.1 va_S.rf hown (hts _ (zin__r4 (.fieldLink RX3 9 "ReckonBench$Row" "kind" "LReckonBench$Kind;") (List.mem_of_getElem? (i := 2) rfl))) (fun _ h9 => h9) dX3_firstExtreme_22 ?_
      refine lv_lload hx hb dX3_firstExtreme_25 (lv_at hl 0 rfl) ?_
      refine vp_callSi (va_Run.run (va_runV (As := [.long v4_1]) (rest := []) ⟨hx, hb, hml, hown, hts⟩ (c_X1_isNan l ad w_k h_w_k v4_1) (cwV 1 hts (gV iX1_isNan (zin__r23 (.methodLink RX3 37 yX1_isNan) (List.mem_of_getElem? (i := 15) rfl))) rfl rfl rfl (by decide +kernel) ⟨Nat.le_of_ble_eq_true rfl, Nat.le_of_ble_eq_true rfl⟩) ⟨fun a U g mk q => ⟨q.1, kU_bl q.2⟩, (kU_rv hk h_w_k), fun U hU hW => ⟨rfl, kU_mvH hk hU hW⟩⟩ rfl rfl hl.1 rfl (lv_room (Nat.le_of_ble_eq_true rfl)) dX3_firstExtreme_27 ⟨Nat.zero_le _, Nat.zero_le _⟩)) (fun r_27 hr_27 => ?_)
      subst hr_27
      refine lv_if_eq (tgt := 36) hx hb dX3_firstExtreme_30 (by decide) (fun c_30 => ?_) (fun c_30 => ?_)
      · have hf : f_X3_firstExtreme w_k w_n w_f x1 = (f_X3_firstExtreme_2 w_k w_n w_f x1 q2 q3 rec_4 v4_1) := hf.trans (if_pos c_30)
        refine lv_iload_n hx hb dX3_firstExtreme_36 rfl (lv_at hl 3 rfl) ?_
        refine lv_iconst (v := -1) hx hb dX3_firstExtreme_37 (by decide) ?_
        refine lv_icmp_eq (tgt := 57) hx hb dX3_firstExtreme_38 (by decide) (fun c_38 => ?_) (fun c_38 => ?_)
        · have hf : f_X3_firstExtreme w_k w_n w_f x1 = (rec_4 q3 (q3 + (1 : Int32))) := hf.trans (if_pos c_38)
          refine lv_iload_n hx hb dX3_firstExtreme_57 rfl (lv_at hl 4 rfl) ?_
          refine lv_istore_n (lv' := [(2, .int q3), (4, .long v4_1), (0, .ref w), (1, .int x1), (3, .int q3)]) hx hb dX3_firstExtreme_58 rfl hl (by decide) rfl (fun ls hl => ?_)
          obtain ⟨v3_2, e_v3_2⟩ : ∃ y : Int32, y = (q3 + (1 : Int32)) := ⟨_, rfl⟩
          refine lv_iinc (v := v3_2) (lv' := [(3, .int v3_2), (2, .int q3), (4, .long v4_1), (0, .ref w), (1, .int x1)]) hx hb dX3_firstExtreme_59 hl (k := 4) rfl (by rw [e_v3_2]; rfl) (by decide) rfl (fun ls hl => ?_)
          have hf : f_X3_firstExtreme w_k w_n w_f x1 = (rec_4 q3 v3_2) := hf.trans (congrArg (fun z => (rec_4 q3 z)) e_v3_2.symm)
          refine lv_goto (tgt := 4) hx hb dX3_firstExtreme_62 (by decide) ?_
          exact ih_4 (q3, v3_2) ls ⟨hf.trans (congrFun (congrFun hrec_4 _) _), (by rw [e_v3_2]; first | exact eInv.next hn hJ c_10 | exact eInv.take hn hJ c_10)⟩ (lv_sub hl [3, 4, 1, 0] rfl)
        · have hf : f_X3_firstExtreme w_k w_n w_f x1 = (f_X3_firstExtreme_1 w_k w_n w_f x1 q2 q3 rec_4 v4_1) := hf.trans (if_neg c_38)
          refine lv_aload_n hx hb dX3_firstExtreme_41 rfl (lv_at hl 1 rfl) ?_
          refine lv_lload hx hb dX3_firstExtreme_42 (lv_at hl 0 rfl) ?_
          refine lv_aload_n hx hb dX3_firstExtreme_44 rfl (lv_at hl 1 rfl) ?_
          refine vk_getf hx hb hr_w.2.2.1 va_S.rf hown (hts _ (zin__r4 (.fieldLink RX3 15 "ReckonBench$Row" "numbers" "[J") (List.mem_of_getElem? (i := 3) rfl))) (fun _ h9 => h9) dX3_firstExtreme_45 ?_
          refine lv_iload_n hx hb dX3_firstExtreme_48 rfl (lv_at hl 3 rfl) ?_
          refine va_tl hx hb hr_w.2.2.2 va_S.rf (eInv.best hn hJ c_38) (v := .long (w_f q2.toNatClampNeg)) rfl dX3_firstExtreme_49 ?_
          refine lv_iload_n hx hb dX3_firstExtreme_50 rfl (lv_at hl 2 rfl) ?_
          refine vp_callSi (va_Run.run (va_runV (As := [.long v4_1, .long (w_f q2.toNatClampNeg), .int x1]) (rest := []) ⟨hx, hb, hml, hown, hts⟩ (c_X3_isBeyond l ad w w_na w_n w_f w_k h_w_k v4_1 (w_f q2.toNatClampNeg) x1) (cwV 3 hts (gV iX3_isBeyond (zin__r23 (.methodLink RX3 41 yX3_isBeyond) (List.mem_of_getElem? (i := 16) rfl))) rfl rfl rfl (by decide +kernel) ⟨Nat.le_of_ble_eq_true rfl, Nat.le_of_ble_eq_true rfl⟩) ⟨fun a U g mk q => ⟨q.1, kU_bl q.2.1, rU_bl q.2.2⟩, (rU_rv hr_w), fun U hU hW => ⟨rfl, ⟨kU_mvH hk hU hW, rU_mvH hr_w hU hW⟩⟩⟩ rfl rfl hl.1 rfl (lv_room (Nat.le_of_ble_eq_true rfl)) dX3_firstExtreme_51 ⟨Nat.zero_le _, Nat.zero_le _⟩)) (fun r_51 hr_51 => ?_)
          subst hr_51
          refine lv_if_eq (tgt := 59) hx hb dX3_firstExtreme_54 (by decide) (fun c_54 => ?_) (fun c_54 => ?_)
          · have hf : f_X3_firstExtreme w_k w_n w_f x1 = (rec_4 q2 (q3 + (1 : Int32))) := hf.trans (if_pos c_54)
            obtain ⟨v3_3, e_v3_3⟩ : ∃ y : Int32, y = (q3 + (1 : Int32)) := ⟨_, rfl⟩
            refine lv_iinc (v := v3_3) (lv' := [(3, .int v3_3), (4, .long v4_1), (0, .ref w), (1, .int x1), (2, .int q2)]) hx hb dX3_firstExtreme_59 hl (k := 4) rfl (by rw [e_v3_3]; rfl) (by decide) rfl (fun ls hl => ?_)
            have hf : f_X3_firstExtreme w_k w_n w_f x1 = (rec_4 q2 v3_3) := hf.trans (congrArg (fun z => (rec_4 q2 z)) e_v3_3.symm)
            refine lv_goto (tgt := 4) hx hb dX3_firstExtreme_62 (by decide) ?_
            exact ih_4 (q2, v3_3) ls ⟨hf.trans (congrFun (congrFun hrec_4 _) _), (by rw [e_v3_3]; first | exact eInv.next hn hJ c_10 | exact eInv.take hn hJ c_10)⟩ (lv_sub hl [2, 3, 4, 0] rfl)
          · have hf : f_X3_firstExtreme w_k w_n w_f x1 = (rec_4 q3 (q3 + (1 : Int32))) := hf.trans (if_neg c_54)
            refine lv_iload_n hx hb dX3_firstExtreme_57 rfl (lv_at hl 4 rfl) ?_
            refine lv_istore_n (lv' := [(2, .int q3), (4, .long v4_1), (0, .ref w), (1, .int x1), (3, .int q3)]) hx hb dX3_firstExtreme_58 rfl hl (by decide) rfl (fun ls hl => ?_)
            obtain ⟨v3_4, e_v3_4⟩ : ∃ y : Int32, y = (q3 + (1 : Int32)) := ⟨_, rfl⟩
            refine lv_iinc (v := v3_4) (lv' := [(3, .int v3_4), (2, .int q3), (4, .long v4_1), (0, .ref w), (1, .int x1)]) hx hb dX3_firstExtreme_59 hl (k := 4) rfl (by rw [e_v3_4]; rfl) (by decide) rfl (fun ls hl => ?_)
            have hf : f_X3_firstExtreme w_k w_n w_f x1 = (rec_4 q3 v3_4) := hf.trans (congrArg (fun z => (rec_4 q3 z)) e_v3_4.symm)
            refine lv_goto (tgt := 4) hx hb dX3_firstExtreme_62 (by decide) ?_
            exact ih_4 (q3, v3_4) ls ⟨hf.trans (congrFun (congrFun hrec_4 _) _), (by rw [e_v3_4]; first | exact eInv.next hn hJ c_10 | exact eInv.take hn hJ c_10)⟩ (lv_sub hl [3, 4, 1, 0] rfl)
      · have hf : f_X3_firstExtreme w_k w_n w_f x1 = (rec_4 q2 (q3 + (1 : Int32))) := hf.trans (if_neg c_30)
        refine lv_goto (tgt := 59) hx hb dX3_firstExtreme_33 (by decide) ?_
        obtain ⟨v3_5, e_v3_5⟩ : ∃ y : Int32, y = (q3 + (1 : Int32)) := ⟨_, rfl⟩
        refine lv_iinc (v := v3_5) (lv' := [(3, .int v3_5), (4, .long v4_1), (0, .ref w), (1, .int x1), (2, .int q2)]) hx hb dX3_firstExtreme_59 hl (k := 4) rfl (by rw [e_v3_5]; rfl) (by decide) rfl (fun ls hl => ?_)
        have hf : f_X3_firstExtreme w_k w_n w_f x1 = (rec_4 q2 v3_5) := hf.trans (congrArg (fun z => (rec_4 q2 z)) e_v3_5.symm)
        refine lv_goto (tgt := 4) hx hb dX3_firstExtreme_62 (by decide) ?_
        exact ih_4 (q2, v3_5) ls ⟨hf.trans (congrFun (congrFun hrec_4 _) _), (by rw [e_v3_5]; first | exact eInv.next hn hJ c_10 | exact eInv.take hn hJ c_10)⟩ (lv_sub hl [2, 3, 4, 0] rfl)
def f_X3_isSorted_1 (w_k : Nat) (w_f : Nat → Int64) (q1 : Int32) (rec_2 : Int32 → Int32) : Int32 := if (f_X1_totalRank w_k (w_f (q1 - (1 : Int32)).toNatClampNeg)) ≤ (f_X1_totalRank w_k (w_f q1.toNatClampNeg)) then (rec_2 (q1 + (1 : Int32))) else (0 : Int32)
def f_X3_isSorted_2 (w_k : Nat) (w_n : Nat) (w_f : Nat → Int64) (q1 : Int32) (rec_2 : Int32 → Int32) : Int32 := if (nI w_n) ≤ q1 then (1 : Int32) else (f_X3_isSorted_1 w_k w_f q1 rec_2)
def f_X3_isSorted_L2 (w_k : Nat) (w_n : Nat) (w_f : Nat → Int64) : Nat → Int32 → Int32
  | 0, _ => 0
  | n + 1, q1 => (f_X3_isSorted_2 w_k w_n w_f q1 (f_X3_isSorted_L2 w_k w_n w_f n))
def f_X3_isSorted (w_k : Nat) (w_n : Nat) (w_f : Nat → Int64) : Int32 := (f_X3_isSorted_L2 w_k w_n w_f 500 (1 : Int32))
def zX3_isSorted : List Cond := .code yX3_isSorted cX3_isSorted 2 (some .boolean) :: zall
theorem iX3_isSorted : MWv RX3 yX3_isSorted (.code yX3_isSorted cX3_isSorted 2 (some .boolean)) := ⟨(zin__r25 (.instanceMethod yX3_isSorted) (List.mem_of_getElem? (i := 21) rfl)), (zin__r25 (.selects RX3 yX3_isSorted yX3_isSorted) (List.mem_of_getElem? (i := 22) rfl)), (zin__r3 (.initialized RX3) (List.mem_of_getElem? (i := 15) rfl)), (zin__r25 (.code yX3_isSorted cX3_isSorted 2 (some .boolean)) (List.mem_of_getElem? (i := 23) rfl))⟩
set_option maxHeartbeats 4000000 in
set_option maxRecDepth 100000 in
theorem c_X3_isSorted (l : Launch) (ad : Nat → Nat) (w w_na w_n : Nat) (w_f : Nat → Int64) (w_k : Nat) (h_w_k : w_k < 2) (hn : w_n ≤ 500) : Met l yX3_isSorted zX3_isSorted ({ frames := 2, cells := 0, slots := 0, locals := 44 }) (va_Pc [.ref w] (fun U => kU ad U ∧ rU w ad w_k w_na w_n w_f U)) (vp_Si (fun r => r = f_X3_isSorted w_k w_n w_f)) 0 0 (fun _ => False) := by
  refine Met.ofW (cc := cX3_isSorted) (maxL := 2) (ret := (some .boolean)) (by decide) rfl ?_
  intro p e s m args below meth c s₁ B hml hv
  obtain ⟨rfl, hk, hr_w⟩ := hv
  have hx := B.exec
  have hb := B.bytes
  have hr := B.returns
  have hts : ∀ w ∈ zall, w.before _ s = true := fun w h => atoms_spec (ws := zX3_isSorted) B.pre w (List.mem_cons_of_mem _ h)
  have hown : s.vm.findClass RX3 = some m.cls := findClass_of_methodNamed B.named
  have hlocks := B.notSynchronized
  have hl := lv_entry ([.ref w]) (n := 2) (Nat.le_of_ble_eq_true rfl)
  rw [lg_entry_eq]
  generalize (lg_sl ([.ref w]) ++ List.replicate (2 - (lg_sl ([.ref w])).length) Slot.unset).toArray = ls at hl ⊢
  have hl : lv_has ls 2 [(0, .ref w)] := hl
  have hf : f_X3_isSorted w_k w_n w_f = (f_X3_isSorted_L2 w_k w_n w_f 500 (1 : Int32)) := rfl
  refine lv_iconst (v := 1) hx hb dX3_isSorted_0 (by decide) ?_
  refine lv_istore_n (lv' := [(1, .int (1 : Int32)), (0, .ref w)]) hx hb dX3_isSorted_1 rfl hl (by decide) rfl (fun ls hl => ?_)
  refine W_loop (α := Int32) (pcJ := 2) (nL := 2) (fun n v => f_X3_isSorted w_k w_n w_f = f_X3_isSorted_L2 w_k w_n w_f n v ∧ (gInv 1 v n)) (fun v => []) (fun v => [(0, .ref w), (1, .int v)]) (fun q1 hC => ?_) (fun n_2 ih_2 q1 ls hC hl => ?_) 500 (1 : Int32) ls ⟨hf, gInv.init1⟩ (lv_sub hl [1, 0] rfl)
  · skip
    have hJ : (gInv 1 q1 (0 : Nat)) := hC.2
    exact gInv.zero hJ
  · skip
    obtain ⟨hf, hJ⟩ : (f_X3_isSorted w_k w_n w_f = f_X3_isSorted_L2 w_k w_n w_f (n_2 + 1) q1) ∧ (gInv 1 q1 (Nat.succ n_2)) := hC
    obtain ⟨rec_2, hrec_2⟩ : ∃ z, z = f_X3_isSorted_L2 w_k w_n w_f n_2 := ⟨_, rfl⟩
    have hf : f_X3_isSorted w_k w_n w_f = (f_X3_isSorted_2 w_k w_n w_f q1 rec_2) := by rw [hrec_2]; exact hf
    have hl : lv_has ls 2 [(0, .ref w), (1, .int q1)] := hl
    refine lv_iload_n hx hb dX3_isSorted_2 rfl (lv_at hl 1 rfl) ?_
    refine lv_aload_n hx hb dX3_isSorted_3 rfl (lv_at hl 0 rfl) ?_
    refine vk_getf hx hb hr_w.2.2.1 va_S.rf hown (hts _ (zin__r4 (.fieldLink RX3 15 "ReckonBench$Row" "numbers" "[J") (List.mem_of_getElem? (i := 3) rfl))) (fun _ h9 => h9) dX3_isSorted_4 ?_
    refine va_tlen hx hb hr_w.2.2.2 va_S.rf (v := (nI w_n)) rfl dX3_isSorted_7 ?_
    refine lv_icmp_ge (tgt := 51) hx hb dX3_isSorted_8 (by decide) (fun c_8 => ?_) (fun c_8 => ?_)
    · have hf : f_X3_isSorted w_k w_n w_f = (1 : Int32) := hf.trans (if_pos c_8)
      refine lv_iconst (v := 1) hx hb dX3_isSorted_51 (by decide) ?_
      exact W.zret hx hb hr rfl (fun t ht hW => ⟨_, rfl, hf.symm, ht⟩) (fun q hq => absurd hq List.not_mem_nil) dX3_isSorted_52
    · have hf : f_X3_isSorted w_k w_n w_f = (f_X3_isSorted_1 w_k w_f q1 rec_2) := hf.trans (if_neg c_8)
      refine lv_aload_n hx hb dX3_isSorted_11 rfl (lv_at hl 0 rfl) ?_
      refine vk_getf hx hb hr_w.2.1 va_S.rf hown (hts _ (zin__r4 (.fieldLink RX3 9 "ReckonBench$Row" "kind" "LReckonBench$Kind;") (List.mem_of_getElem? (i := 2) rfl))) (fun _ h9 => h9) dX3_isSorted_12 ?_
      refine lv_aload_n hx hb dX3_isSorted_15 rfl (lv_at hl 0 rfl) ?_
      refine vk_getf hx hb hr_w.2.2.1 va_S.rf hown (hts _ (zin__r4 (.fieldLink RX3 15 "ReckonBench$Row" "numbers" "[J") (List.mem_of_getElem? (i := 3) rfl))) (fun _ h9 => h9) dX3_isSorted_16 ?_
      refine lv_iload_n hx hb dX3_isSorted_19 rfl (lv_at hl 1 rfl) ?_
      refine lv_iconst (v := 1) hx hb dX3_isSorted_20 (by decide) ?_
      refine lv_isub hx hb dX3_isSorted_21 ?_
      refine va_tl hx hb hr_w.2.2.2 va_S.rf (gInv.pv hn hJ c_8) (v := .long (w_f (q1 - (1 : Int32)).toNatClampNeg)) rfl dX3_isSorted_22 ?_
      refine vp_callSl (va_Run.run (va_runV (As := [.long (w_f (q1 - (1 : Int32)).toNatClampNeg)]) (rest := []) ⟨hx, hb, hml, hown, hts⟩ (c_X1_totalRank l ad w_k h_w_k (w_f (q1 - (1 : Int32)).toNatClampNeg)) (cwV 1 hts (gV iX1_totalRank (zin__r26 (.methodLink RX3 49 yX1_totalRank) (List.mem_of_getElem? (i := 0) rfl))) rfl rfl rfl (by decide +kernel) ⟨Nat.le_of_ble_eq_true rfl, Nat.le_of_ble_eq_true rfl⟩) ⟨fun a U g mk q => ⟨q.1, kU_bl q.2⟩, (kU_rv hk h_w_k), fun U hU hW => ⟨rfl, kU_mvH hk hU hW⟩⟩ rfl rfl hl.1 rfl (lv_room (Nat.le_of_ble_eq_true rfl)) dX3_isSorted_23 ⟨Nat.zero_le _, Nat.zero_le _⟩)) (fun r_23 hr_23 => ?_)
      subst hr_23
      refine lv_aload_n hx hb dX3_isSorted_26 rfl (lv_at hl 0 rfl) ?_
      refine vk_getf hx hb hr_w.2.1 va_S.rf hown (hts _ (zin__r4 (.fieldLink RX3 9 "ReckonBench$Row" "kind" "LReckonBench$Kind;") (List.mem_of_getElem? (i := 2) rfl))) (fun _ h9 => h9) dX3_isSorted_27 ?_
      refine lv_aload_n hx hb dX3_isSorted_30 rfl (lv_at hl 0 rfl) ?_
      refine vk_getf hx hb hr_w.2.2.1 va_S.rf hown (hts _ (zin__r4 (.fieldLink RX3 15 "ReckonBench$Row" "numbers" "[J") (List.mem_of_getElem? (i := 3) rfl))) (fun _ h9 => h9) dX3_isSorted_31 ?_
      refine lv_iload_n hx hb dX3_isSorted_34 rfl (lv_at hl 1 rfl) ?_
      refine va_tl hx hb hr_w.2.2.2 va_S.rf (gInv.at hn hJ c_8) (v := .long (w_f q1.toNatClampNeg)) rfl dX3_isSorted_35 ?_
      refine vp_callSl (va_Run.run (va_runV (As := [.long (w_f q1.toNatClampNeg)]) (rest := [.long (f_X1_totalRank w_k (w_f (q1 - (1 : Int32)).toNatClampNeg))]) ⟨hx, hb, hml, hown, hts⟩ (c_X1_totalRank l ad w_k h_w_k (w_f q1.toNatClampNeg)) (cwV 1 hts (gV iX1_totalRank (zin__r26 (.methodLink RX3 49 yX1_totalRank) (List.mem_of_getElem? (i := 0) rfl))) rfl rfl rfl (by decide +kernel) ⟨Nat.le_of_ble_eq_true rfl, Nat.le_of_ble_eq_true rfl⟩) ⟨fun a U g mk q => ⟨q.1, kU_bl q.2⟩, (kU_rv hk h_w_k), fun U hU hW => ⟨rfl, kU_mvH hk hU hW⟩⟩ rfl rfl hl.1 rfl (lv_room (Nat.le_of_ble_eq_true rfl)) dX3_isSorted_36 ⟨Nat.zero_le _, Nat.zero_le _⟩)) (fun r_36 hr_36 => ?_)
      subst hr_36
      refine W.lcmp hx hb dX3_isSorted_39 ?_
      refine lv_if_le (tgt := 45) hx hb dX3_isSorted_40 (by decide) (fun c_40 => ?_) (fun c_40 => ?_)
      · have c_40 : (f_X1_totalRank w_k (w_f (q1 - (1 : Int32)).toNatClampNeg)) ≤ (f_X1_totalRank w_k (w_f q1.toNatClampNeg)) := (lg_cmp_le (f_X1_totalRank w_k (w_f (q1 - (1 : Int32)).toNatClampNeg)) (f_X1_totalRank w_k (w_f q1.toNatClampNeg))).mp c_40
        have hf : f_X3_isSorted w_k w_n w_f = (rec_2 (q1 + (1 : Int32))) := hf.trans (if_pos c_40)
        obtain ⟨v1_1, e_v1_1⟩ : ∃ y : Int32, y = (q1 + (1 : Int32)) := ⟨_, rfl⟩
        refine lv_iinc (v := v1_1) (lv' := [(1, .int v1_1), (0, .ref w)]) hx hb dX3_isSorted_45 hl (k := 1) rfl (by rw [e_v1_1]; rfl) (by decide) rfl (fun ls hl => ?_)
        have hf : f_X3_isSorted w_k w_n w_f = (rec_2 v1_1) := hf.trans (congrArg (fun z => (rec_2 z)) e_v1_1.symm)
        refine lv_goto (tgt := 2) hx hb dX3_isSorted_48 (by decide) ?_
        exact ih_2 v1_1 ls ⟨hf.trans (congrFun hrec_2 _), (by rw [e_v1_1]; exact gInv.nx hn hJ c_8)⟩ (lv_sub hl [1, 0] rfl)
      · have c_40 : ¬ ((f_X1_totalRank w_k (w_f (q1 - (1 : Int32)).toNatClampNeg)) ≤ (f_X1_totalRank w_k (w_f q1.toNatClampNeg))) := fun h9 => c_40 ((lg_cmp_le (f_X1_totalRank w_k (w_f (q1 - (1 : Int32)).toNatClampNeg)) (f_X1_totalRank w_k (w_f q1.toNatClampNeg))).mpr h9)
        have hf : f_X3_isSorted w_k w_n w_f = (0 : Int32) := hf.trans (if_neg c_40)
        refine lv_iconst (v := 0) hx hb dX3_isSorted_43 (by decide) ?_
        exact W.zret hx hb hr rfl (fun t ht hW => ⟨_, rfl, hf.symm, ht⟩) (fun q hq => absurd hq List.not_mem_nil) dX3_isSorted_44
def f_X3_firstWith_1 (w_f : Nat → Int64) (x1 : Int64) (q3 : Int32) (rec_2 : Int32 → Int32) : Int32 := if (w_f q3.toNatClampNeg) = x1 then q3 else (rec_2 (q3 + (1 : Int32)))
def f_X3_firstWith_2 (w_n : Nat) (w_f : Nat → Int64) (x1 : Int64) (q3 : Int32) (rec_2 : Int32 → Int32) : Int32 := if (nI w_n) ≤ q3 then (-1 : Int32) else (f_X3_firstWith_1 w_f x1 q3 rec_2)
def f_X3_firstWith_L2 (w_n : Nat) (w_f : Nat → Int64) (x1 : Int64) : Nat → Int32 → Int32
  | 0, _ => 0
  | n + 1, q3 => (f_X3_firstWith_2 w_n w_f x1 q3 (f_X3_firstWith_L2 w_n w_f x1 n))
def f_X3_firstWith (w_k : Nat) (w_n : Nat) (w_f : Nat → Int64) (x1 : Int64) : Int32 := (f_X3_firstWith_L2 w_n w_f x1 501 (0 : Int32))
def zX3_firstWith : List Cond := .code yX3_firstWith cX3_firstWith 4 (some .int) :: zall
theorem iX3_firstWith : MWv RX3 yX3_firstWith (.code yX3_firstWith cX3_firstWith 4 (some .int)) := ⟨(zin__r26 (.instanceMethod yX3_firstWith) (List.mem_of_getElem? (i := 2) rfl)), (zin__r26 (.selects RX3 yX3_firstWith yX3_firstWith) (List.mem_of_getElem? (i := 3) rfl)), (zin__r3 (.initialized RX3) (List.mem_of_getElem? (i := 15) rfl)), (zin__r26 (.code yX3_firstWith cX3_firstWith 4 (some .int)) (List.mem_of_getElem? (i := 4) rfl))⟩
set_option maxHeartbeats 4000000 in
set_option maxRecDepth 100000 in
theorem c_X3_firstWith (l : Launch) (ad : Nat → Nat) (w w_na w_n : Nat) (w_f : Nat → Int64) (w_k : Nat) (h_w_k : w_k < 2) (x1 : Int64) (hn : w_n ≤ 500) : Met l yX3_firstWith zX3_firstWith ({ frames := 0, cells := 0, slots := 0, locals := 0 }) (va_Pc [.ref w, .long x1] (fun U => kU ad U ∧ rU w ad w_k w_na w_n w_f U)) (vp_Si (fun r => r = f_X3_firstWith w_k w_n w_f x1)) 0 0 (fun _ => False) := by
  refine Met.ofW (cc := cX3_firstWith) (maxL := 4) (ret := (some .int)) (by decide) rfl ?_
  intro p e s m args below meth c s₁ B hml hv
  obtain ⟨rfl, hk, hr_w⟩ := hv
  have hx := B.exec
  have hb := B.bytes
  have hr := B.returns
  have hts : ∀ w ∈ zall, w.before _ s = true := fun w h => atoms_spec (ws := zX3_firstWith) B.pre w (List.mem_cons_of_mem _ h)
  have hown : s.vm.findClass RX3 = some m.cls := findClass_of_methodNamed B.named
  have hlocks := B.notSynchronized
  have hl := lv_entry ([.ref w, .long x1]) (n := 4) (Nat.le_of_ble_eq_true rfl)
  rw [lg_entry_eq]
  generalize (lg_sl ([.ref w, .long x1]) ++ List.replicate (4 - (lg_sl ([.ref w, .long x1])).length) Slot.unset).toArray = ls at hl ⊢
  have hl : lv_has ls 4 [(0, .ref w), (1, .long x1)] := hl
  have hf : f_X3_firstWith w_k w_n w_f x1 = (f_X3_firstWith_L2 w_n w_f x1 501 (0 : Int32)) := rfl
  refine lv_iconst (v := 0) hx hb dX3_firstWith_0 (by decide) ?_
  refine lv_istore_n (lv' := [(3, .int (0 : Int32)), (0, .ref w), (1, .long x1)]) hx hb dX3_firstWith_1 rfl hl (by decide) rfl (fun ls hl => ?_)
  refine W_loop (α := Int32) (pcJ := 2) (nL := 4) (fun n v => f_X3_firstWith w_k w_n w_f x1 = f_X3_firstWith_L2 w_n w_f x1 n v ∧ (gInv 0 v n)) (fun v => []) (fun v => [(0, .ref w), (1, .long x1), (3, .int v)]) (fun q3 hC => ?_) (fun n_2 ih_2 q3 ls hC hl => ?_) 501 (0 : Int32) ls ⟨hf, gInv.init0⟩ (lv_sub hl [1, 2, 0] rfl)
  · skip
    have hJ : (gInv 0 q3 (0 : Nat)) := hC.2
    exact gInv.zero hJ
  · skip
    obtain ⟨hf, hJ⟩ : (f_X3_firstWith w_k w_n w_f x1 = f_X3_firstWith_L2 w_n w_f x1 (n_2 + 1) q3) ∧ (gInv 0 q3 (Nat.succ n_2)) := hC
    obtain ⟨rec_2, hrec_2⟩ : ∃ z, z = f_X3_firstWith_L2 w_n w_f x1 n_2 := ⟨_, rfl⟩
    have hf : f_X3_firstWith w_k w_n w_f x1 = (f_X3_firstWith_2 w_n w_f x1 q3 rec_2) := by rw [hrec_2]; exact hf
    have hl : lv_has ls 4 [(0, .ref w), (1, .long x1), (3, .int q3)] := hl
    refine lv_iload_n hx hb dX3_firstWith_2 rfl (lv_at hl 2 rfl) ?_
    refine lv_aload_n hx hb dX3_firstWith_3 rfl (lv_at hl 0 rfl) ?_
    refine vk_getf hx hb hr_w.2.2.1 va_S.rf hown (hts _ (zin__r4 (.fieldLink RX3 15 "ReckonBench$Row" "numbers" "[J") (List.mem_of_getElem? (i := 3) rfl))) (fun _ h9 => h9) dX3_firstWith_4 ?_
    refine va_tlen hx hb hr_w.2.2.2 va_S.rf (v := (nI w_n)) rfl dX3_firstWith_7 ?_
    refine lv_icmp_ge (tgt := 30) hx hb dX3_firstWith_8 (by decide) (fun c_8 => ?_) (fun c_8 => ?_)
    · have hf : f_X3_firstWith w_k w_n w_f x1 = (-1 : Int32) := hf.trans (if_pos c_8)
      refine lv_iconst (v := -1) hx hb dX3_firstWith_30 (by decide) ?_
      exact W.iret hx hb hr (fun t ht hW => ⟨_, rfl, hf.symm, ht⟩) (fun q hq => absurd hq List.not_mem_nil) dX3_firstWith_31
    · have hf : f_X3_firstWith w_k w_n w_f x1 = (f_X3_firstWith_1 w_f x1 q3 rec_2) := hf.trans (if_neg c_8)
      refine lv_aload_n hx hb dX3_firstWith_11 rfl (lv_at hl 0 rfl) ?_
      refine vk_getf hx hb hr_w.2.2.1 va_S.rf hown (hts _ (zin__r4 (.fieldLink RX3 15 "ReckonBench$Row" "numbers" "[J") (List.mem_of_getElem? (i := 3) rfl))) (fun _ h9 => h9) dX3_firstWith_12 ?_
      refine lv_iload_n hx hb dX3_firstWith_15 rfl (lv_at hl 2 rfl) ?_
      refine va_tl hx hb hr_w.2.2.2 va_S.rf (gInv.at hn hJ c_8) (v := .long (w_f q3.toNatClampNeg)) rfl dX3_firstWith_16 ?_
      refine lv_lload_n hx hb dX3_firstWith_17 rfl (lv_at hl 1 rfl) ?_
      refine W.lcmp hx hb dX3_firstWith_18 ?_
      refine lv_if_ne (tgt := 24) hx hb dX3_firstWith_19 (by decide) (fun c_19 => ?_) (fun c_19 => ?_)
      · have c_19 : ¬ ((w_f q3.toNatClampNeg) = x1) := fun h9 => c_19 ((lg_cmp_eq (w_f q3.toNatClampNeg) x1).mpr h9)
        have hf : f_X3_firstWith w_k w_n w_f x1 = (rec_2 (q3 + (1 : Int32))) := hf.trans (if_neg c_19)
        obtain ⟨v3_1, e_v3_1⟩ : ∃ y : Int32, y = (q3 + (1 : Int32)) := ⟨_, rfl⟩
        refine lv_iinc (v := v3_1) (lv' := [(3, .int v3_1), (0, .ref w), (1, .long x1)]) hx hb dX3_firstWith_24 hl (k := 2) rfl (by rw [e_v3_1]; rfl) (by decide) rfl (fun ls hl => ?_)
        have hf : f_X3_firstWith w_k w_n w_f x1 = (rec_2 v3_1) := hf.trans (congrArg (fun z => (rec_2 z)) e_v3_1.symm)
        refine lv_goto (tgt := 2) hx hb dX3_firstWith_27 (by decide) ?_
        exact ih_2 v3_1 ls ⟨hf.trans (congrFun hrec_2 _), (by rw [e_v3_1]; exact gInv.nx hn hJ c_8)⟩ (lv_sub hl [1, 2, 0] rfl)
      · have c_19 : (w_f q3.toNatClampNeg) = x1 := (lg_cmp_eq (w_f q3.toNatClampNeg) x1).mp c_19
        have hf : f_X3_firstWith w_k w_n w_f x1 = q3 := hf.trans (if_pos c_19)
        refine lv_iload_n hx hb dX3_firstWith_22 rfl (lv_at hl 2 rfl) ?_
        exact W.iret hx hb hr (fun t ht hW => ⟨_, rfl, hf.symm, ht⟩) (fun q hq => absurd hq List.not_mem_nil) dX3_firstWith_23
def f_X4_rank_1 (i : Nat) (x1 : Int32) (x2 : Int64) : Int64 := if x1 = (1 : Int32) then (-(f_X1_totalRank i x2)) else (f_X1_magnitude i x2)
def f_X4_rank_2 (i : Nat) (x1 : Int32) (x2 : Int64) : Int64 := if x1 = 0 then (f_X1_totalRank i x2) else (f_X4_rank_1 i x1 x2)
def f_X4_rank (i : Nat) (x1 : Int32) (x2 : Int64) : Int64 := (f_X4_rank_2 i x1 x2)
def zX4_rank : List Cond := .code yX4_rank cX4_rank 4 (some .long) :: zall
theorem iX4_rank : MWs yX4_rank (.code yX4_rank cX4_rank 4 (some .long)) := ⟨(zin__r16 (.static yX4_rank) (List.mem_of_getElem? (i := 15) rfl)), (zin__r1 (.initialized RX4) (List.mem_of_getElem? (i := 17) rfl)), (zin__r16 (.code yX4_rank cX4_rank 4 (some .long)) (List.mem_of_getElem? (i := 16) rfl))⟩
set_option maxHeartbeats 4000000 in
set_option maxRecDepth 100000 in
theorem c_X4_rank (l : Launch) (ad : Nat → Nat) (i : Nat) (h_i : i < 2) (x1 : Int32) (x2 : Int64) : Met l yX4_rank zX4_rank ({ frames := 2, cells := 0, slots := 0, locals := 44 }) (va_Pc [.ref (ad i), .int x1, .long x2] (fun U => kU ad U)) (vp_Sl (fun r => r = f_X4_rank i x1 x2)) 0 0 (fun _ => False) := by
  refine Met.ofW (cc := cX4_rank) (maxL := 4) (ret := (some .long)) (by decide) rfl ?_
  intro p e s m args below meth c s₁ B hml hv
  obtain ⟨rfl, hk⟩ := hv
  have hx := B.exec
  have hb := B.bytes
  have hr := B.returns
  have hts : ∀ w ∈ zall, w.before _ s = true := fun w h => atoms_spec (ws := zX4_rank) B.pre w (List.mem_cons_of_mem _ h)
  have hown : s.vm.findClass RX4 = some m.cls := findClass_of_methodNamed B.named
  have hlocks := B.notSynchronized
  have hl := lv_entry ([.ref (ad i), .int x1, .long x2]) (n := 4) (Nat.le_of_ble_eq_true rfl)
  rw [lg_entry_eq]
  generalize (lg_sl ([.ref (ad i), .int x1, .long x2]) ++ List.replicate (4 - (lg_sl ([.ref (ad i), .int x1, .long x2])).length) Slot.unset).toArray = ls at hl ⊢
  have hl : lv_has ls 4 [(0, .ref (ad i)), (1, .int x1), (2, .long x2)] := hl
  have hf : f_X4_rank i x1 x2 = (f_X4_rank_2 i x1 x2) := rfl
  refine lv_iload_n hx hb dX4_rank_0 rfl (lv_at hl 1 rfl) ?_
  refine lv_if_ne (tgt := 10) hx hb dX4_rank_1 (by decide) (fun c_1 => ?_) (fun c_1 => ?_)
  · have hf : f_X4_rank i x1 x2 = (f_X4_rank_1 i x1 x2) := hf.trans (if_neg c_1)
    refine lv_iload_n hx hb dX4_rank_10 rfl (lv_at hl 1 rfl) ?_
    refine lv_iconst (v := 1) hx hb dX4_rank_11 (by decide) ?_
    refine lv_icmp_ne (tgt := 24) hx hb dX4_rank_12 (by decide) (fun c_12 => ?_) (fun c_12 => ?_)
    · have hf : f_X4_rank i x1 x2 = (f_X1_magnitude i x2) := hf.trans (if_neg c_12)
      refine lv_aload_n hx hb dX4_rank_24 rfl (lv_at hl 0 rfl) ?_
      refine lv_lload_n hx hb dX4_rank_25 rfl (lv_at hl 2 rfl) ?_
      refine vp_callSl (va_Run.run (va_runV (As := [.long x2]) (rest := []) ⟨hx, hb, hml, hown, hts⟩ (c_X1_magnitude l ad i h_i x2) (cwV 1 hts (gV iX1_magnitude (zin__r16 (.methodLink RX4 57 yX1_magnitude) (List.mem_of_getElem? (i := 18) rfl))) rfl rfl rfl (by decide +kernel) ⟨Nat.le_of_ble_eq_true rfl, Nat.le_of_ble_eq_true rfl⟩) ⟨fun a U g mk q => ⟨q.1, kU_bl q.2⟩, (kU_rv hk h_i), fun U hU hW => ⟨rfl, kU_mvH hk hU hW⟩⟩ rfl rfl hl.1 rfl (lv_room (Nat.le_of_ble_eq_true rfl)) dX4_rank_26 ⟨Nat.zero_le _, Nat.zero_le _⟩)) (fun r_26 hr_26 => ?_)
      subst hr_26
      exact W.lret hx hb hr (fun t ht hW => ⟨_, rfl, hf.symm, ht⟩) (fun q hq => absurd hq List.not_mem_nil) dX4_rank_29
    · have hf : f_X4_rank i x1 x2 = (-(f_X1_totalRank i x2)) := hf.trans (if_pos c_12)
      refine lv_aload_n hx hb dX4_rank_15 rfl (lv_at hl 0 rfl) ?_
      refine lv_lload_n hx hb dX4_rank_16 rfl (lv_at hl 2 rfl) ?_
      refine vp_callSl (va_Run.run (va_runV (As := [.long x2]) (rest := []) ⟨hx, hb, hml, hown, hts⟩ (c_X1_totalRank l ad i h_i x2) (cwV 1 hts (gV iX1_totalRank (zin__r16 (.methodLink RX4 51 yX1_totalRank) (List.mem_of_getElem? (i := 17) rfl))) rfl rfl rfl (by decide +kernel) ⟨Nat.le_of_ble_eq_true rfl, Nat.le_of_ble_eq_true rfl⟩) ⟨fun a U g mk q => ⟨q.1, kU_bl q.2⟩, (kU_rv hk h_i), fun U hU hW => ⟨rfl, kU_mvH hk hU hW⟩⟩ rfl rfl hl.1 rfl (lv_room (Nat.le_of_ble_eq_true rfl)) dX4_rank_17 ⟨Nat.zero_le _, Nat.zero_le _⟩)) (fun r_17 hr_17 => ?_)
      subst hr_17
      refine lv_lneg hx hb dX4_rank_20 ?_
      refine lv_goto (tgt := 29) hx hb dX4_rank_21 (by decide) ?_
      exact W.lret hx hb hr (fun t ht hW => ⟨_, rfl, hf.symm, ht⟩) (fun q hq => absurd hq List.not_mem_nil) dX4_rank_29
  · have hf : f_X4_rank i x1 x2 = (f_X1_totalRank i x2) := hf.trans (if_pos c_1)
    refine lv_aload_n hx hb dX4_rank_4 rfl (lv_at hl 0 rfl) ?_
    refine lv_lload_n hx hb dX4_rank_5 rfl (lv_at hl 2 rfl) ?_
    refine vp_callSl (va_Run.run (va_runV (As := [.long x2]) (rest := []) ⟨hx, hb, hml, hown, hts⟩ (c_X1_totalRank l ad i h_i x2) (cwV 1 hts (gV iX1_totalRank (zin__r16 (.methodLink RX4 51 yX1_totalRank) (List.mem_of_getElem? (i := 17) rfl))) rfl rfl rfl (by decide +kernel) ⟨Nat.le_of_ble_eq_true rfl, Nat.le_of_ble_eq_true rfl⟩) ⟨fun a U g mk q => ⟨q.1, kU_bl q.2⟩, (kU_rv hk h_i), fun U hU hW => ⟨rfl, kU_mvH hk hU hW⟩⟩ rfl rfl hl.1 rfl (lv_room (Nat.le_of_ble_eq_true rfl)) dX4_rank_6 ⟨Nat.zero_le _, Nat.zero_le _⟩)) (fun r_6 hr_6 => ?_)
    subst hr_6
    exact W.lret hx hb hr (fun t ht hW => ⟨_, rfl, hf.symm, ht⟩) (fun q hq => absurd hq List.not_mem_nil) dX4_rank_9
def f_X5_plain_1 (i : Nat) (a_n : Nat) (a_f : Nat → Int64) (q2 : Int64) (q4 : Int32) (rec_5 : Int64 → Int32 → Int64) : Int64 := if (nI a_n) ≤ q4 then q2 else (rec_5 (f_X2_plus i q2 (a_f q4.toNatClampNeg)) (q4 + (1 : Int32)))
def f_X5_plain_L5 (i : Nat) (a_n : Nat) (a_f : Nat → Int64) : Nat → Int64 → Int32 → Int64
  | 0, _, _ => 0
  | n + 1, q2, q4 => (f_X5_plain_1 i a_n a_f q2 q4 (f_X5_plain_L5 i a_n a_f n))
def f_X5_plain (i : Nat) (a_n : Nat) (a_f : Nat → Int64) : Int64 := (f_X5_plain_L5 i a_n a_f 501 (0 : Int64) (0 : Int32))
def zX5_plain : List Cond := .code yX5_plain cX5_plain 5 (some .long) :: zall
theorem iX5_plain : MWs yX5_plain (.code yX5_plain cX5_plain 5 (some .long)) := ⟨(zin__r24 (.static yX5_plain) (List.mem_of_getElem? (i := 18) rfl)), (zin__r24 (.initialized RX5) (List.mem_of_getElem? (i := 19) rfl)), (zin__r24 (.code yX5_plain cX5_plain 5 (some .long)) (List.mem_of_getElem? (i := 20) rfl))⟩
set_option maxHeartbeats 4000000 in
set_option maxRecDepth 100000 in
theorem c_X5_plain (l : Launch) (ad : Nat → Nat) (i : Nat) (h_i : i < 2) (a a_n : Nat) (a_f : Nat → Int64) (hn : a_n ≤ 500) : Met l yX5_plain zX5_plain ({ frames := 5, cells := 0, slots := 0, locals := 132 }) (va_Pc [.ref (ad i), .ref a] (fun U => kU ad U ∧ tU a a_n a_f U)) (vp_Sl (fun r => r = f_X5_plain i a_n a_f)) 0 0 (fun _ => False) := by
  refine Met.ofW (cc := cX5_plain) (maxL := 5) (ret := (some .long)) (by decide) rfl ?_
  intro p e s m args below meth c s₁ B hml hv
  obtain ⟨rfl, hk, hr_a⟩ := hv
  have hx := B.exec
  have hb := B.bytes
  have hr := B.returns
  have hts : ∀ w ∈ zall, w.before _ s = true := fun w h => atoms_spec (ws := zX5_plain) B.pre w (List.mem_cons_of_mem _ h)
  have hown : s.vm.findClass RX5 = some m.cls := findClass_of_methodNamed B.named
  have hlocks := B.notSynchronized
  have hl := lv_entry ([.ref (ad i), .ref a]) (n := 5) (Nat.le_of_ble_eq_true rfl)
  rw [lg_entry_eq]
  generalize (lg_sl ([.ref (ad i), .ref a]) ++ List.replicate (5 - (lg_sl ([.ref (ad i), .ref a])).length) Slot.unset).toArray = ls at hl ⊢
  have hl : lv_has ls 5 [(0, .ref (ad i)), (1, .ref a)] := hl
  have hf : f_X5_plain i a_n a_f = (f_X5_plain_L5 i a_n a_f 501 (0 : Int64) (0 : Int32)) := rfl
  refine lv_lconst (v := 0) hx hb dX5_plain_0 (by decide) ?_
  refine lv_lstore_n (lv' := [(2, .long (0 : Int64)), (0, .ref (ad i)), (1, .ref a)]) hx hb dX5_plain_1 rfl hl (by decide) rfl (fun ls hl => ?_)
  refine lv_iconst (v := 0) hx hb dX5_plain_2 (by decide) ?_
  refine lv_istore (lv' := [(4, .int (0 : Int32)), (2, .long (0 : Int64)), (0, .ref (ad i)), (1, .ref a)]) hx hb dX5_plain_3 hl (by decide) rfl (fun ls hl => ?_)
  refine W_loop (α := Int64 × Int32) (pcJ := 5) (nL := 5) (fun n v => f_X5_plain i a_n a_f = f_X5_plain_L5 i a_n a_f n v.1 v.2 ∧ (gInv 0 v.2 n)) (fun v => []) (fun v => [(0, .ref (ad i)), (1, .ref a), (2, .long v.1), (4, .int v.2)]) (fun v hC => ?_) (fun n_5 ih_5 v ls hC hl => ?_) 501 ((0 : Int64), (0 : Int32)) ls ⟨hf, gInv.init0⟩ (lv_sub hl [2, 3, 1, 0] rfl)
  · obtain ⟨q2, q4⟩ := v
    have hJ : (gInv 0 q4 (0 : Nat)) := hC.2
    exact gInv.zero hJ
  · obtain ⟨q2, q4⟩ := v
    obtain ⟨hf, hJ⟩ : (f_X5_plain i a_n a_f = f_X5_plain_L5 i a_n a_f (n_5 + 1) q2 q4) ∧ (gInv 0 q4 (Nat.succ n_5)) := hC
    obtain ⟨rec_5, hrec_5⟩ : ∃ z, z = f_X5_plain_L5 i a_n a_f n_5 := ⟨_, rfl⟩
    have hf : f_X5_plain i a_n a_f = (f_X5_plain_1 i a_n a_f q2 q4 rec_5) := by rw [hrec_5]; exact hf
    have hl : lv_has ls 5 [(0, .ref (ad i)), (1, .ref a), (2, .long q2), (4, .int q4)] := hl
    refine lv_iload hx hb dX5_plain_5 (lv_at hl 3 rfl) ?_
    refine lv_aload_n hx hb dX5_plain_7 rfl (lv_at hl 1 rfl) ?_
    refine va_tlen hx hb hr_a va_S.rf (v := (nI a_n)) rfl dX5_plain_8 ?_
    refine lv_icmp_ge (tgt := 28) hx hb dX5_plain_9 (by decide) (fun c_9 => ?_) (fun c_9 => ?_)
    · have hf : f_X5_plain i a_n a_f = q2 := hf.trans (if_pos c_9)
      refine lv_lload_n hx hb dX5_plain_28 rfl (lv_at hl 2 rfl) ?_
      exact W.lret hx hb hr (fun t ht hW => ⟨_, rfl, hf.symm, ht⟩) (fun q hq => absurd hq List.not_mem_nil) dX5_plain_29
    · have hf : f_X5_plain i a_n a_f = (rec_5 (f_X2_plus i q2 (a_f q4.toNatClampNeg)) (q4 + (1 : Int32))) := hf.trans (if_neg c_9)
      refine lv_aload_n hx hb dX5_plain_12 rfl (lv_at hl 0 rfl) ?_
      refine lv_lload_n hx hb dX5_plain_13 rfl (lv_at hl 2 rfl) ?_
      refine lv_aload_n hx hb dX5_plain_14 rfl (lv_at hl 1 rfl) ?_
      refine lv_iload hx hb dX5_plain_15 (lv_at hl 3 rfl) ?_
      refine va_tl hx hb hr_a va_S.rf (gInv.at hn hJ c_9) (v := .long (a_f q4.toNatClampNeg)) rfl dX5_plain_17 ?_
      refine vp_callSl (va_Run.run (va_runS (As := [.ref (ad i), .long q2, .long (a_f q4.toNatClampNeg)]) (rest := []) ⟨hx, hb, hml, hown, hts⟩ (c_X2_plus l ad i h_i q2 (a_f q4.toNatClampNeg)) (va_cwS 3 hts (gS iX2_plus (zin__r24 (.methodLink RX5 7 yX2_plus) (List.mem_of_getElem? (i := 21) rfl))) rfl rfl rfl (by decide +kernel) ⟨Nat.le_of_ble_eq_true rfl, Nat.le_of_ble_eq_true rfl⟩) ⟨fun a U g mk q => ⟨q.1, kU_bl q.2⟩, fun U hU hW => ⟨rfl, kU_mvH hk hU hW⟩⟩ rfl rfl hl.1 rfl (lv_room (Nat.le_of_ble_eq_true rfl)) dX5_plain_18 ⟨Nat.zero_le _, Nat.zero_le _⟩)) (fun r_18 hr_18 => ?_)
      subst hr_18
      refine lv_topl (fun v2_1 e_v2_1 => ?_)
      have hf : f_X5_plain i a_n a_f = (rec_5 v2_1 (q4 + (1 : Int32))) := hf.trans (congrArg (fun z => (rec_5 z (q4 + (1 : Int32)))) e_v2_1.symm)
      refine lv_lstore_n (lv' := [(2, .long v2_1), (0, .ref (ad i)), (1, .ref a), (4, .int q4)]) hx hb dX5_plain_21 rfl hl (by decide) rfl (fun ls hl => ?_)
      obtain ⟨v4_2, e_v4_2⟩ : ∃ y : Int32, y = (q4 + (1 : Int32)) := ⟨_, rfl⟩
      refine lv_iinc (v := v4_2) (lv' := [(4, .int v4_2), (2, .long v2_1), (0, .ref (ad i)), (1, .ref a)]) hx hb dX5_plain_22 hl (k := 3) rfl (by rw [e_v4_2]; rfl) (by decide) rfl (fun ls hl => ?_)
      have hf : f_X5_plain i a_n a_f = (rec_5 v2_1 v4_2) := hf.trans (congrArg (fun z => (rec_5 v2_1 z)) e_v4_2.symm)
      refine lv_goto (tgt := 5) hx hb dX5_plain_25 (by decide) ?_
      exact ih_5 (v2_1, v4_2) ls ⟨hf.trans (congrFun (congrFun hrec_5 _) _), (by rw [e_v4_2]; exact gInv.nx hn hJ c_9)⟩ (lv_sub hl [2, 3, 1, 0] rfl)
def f_X5_carried_1 (i : Nat) (q2 : Int64) (q6 : Int32) (rec_8 : Int64 → Int64 → Int32 → Int64) (v7_1 : Int64) (v9_2 : Int64) : Int64 := (rec_8 v9_2 (f_X2_minus i (f_X2_minus i v9_2 q2) v7_1) (q6 + (1 : Int32)))
def f_X5_carried_2 (i : Nat) (q2 : Int64) (q6 : Int32) (rec_8 : Int64 → Int64 → Int32 → Int64) (v7_1 : Int64) : Int64 := (f_X5_carried_1 i q2 q6 rec_8 v7_1 (f_X2_plus i q2 v7_1))
def f_X5_carried_3 (i : Nat) (a_n : Nat) (a_f : Nat → Int64) (q2 : Int64) (q4 : Int64) (q6 : Int32) (rec_8 : Int64 → Int64 → Int32 → Int64) : Int64 := if (nI a_n) ≤ q6 then q2 else (f_X5_carried_2 i q2 q6 rec_8 (f_X2_minus i (a_f q6.toNatClampNeg) q4))
def f_X5_carried_L8 (i : Nat) (a_n : Nat) (a_f : Nat → Int64) : Nat → Int64 → Int64 → Int32 → Int64
  | 0, _, _, _ => 0
  | n + 1, q2, q4, q6 => (f_X5_carried_3 i a_n a_f q2 q4 q6 (f_X5_carried_L8 i a_n a_f n))
def f_X5_carried (i : Nat) (a_n : Nat) (a_f : Nat → Int64) : Int64 := (f_X5_carried_L8 i a_n a_f 501 (0 : Int64) (0 : Int64) (0 : Int32))
def zX5_carried : List Cond := .code yX5_carried cX5_carried 11 (some .long) :: zall
theorem iX5_carried : MWs yX5_carried (.code yX5_carried cX5_carried 11 (some .long)) := ⟨(zin__r24 (.static yX5_carried) (List.mem_of_getElem? (i := 23) rfl)), (zin__r24 (.initialized RX5) (List.mem_of_getElem? (i := 19) rfl)), (zin__r25 (.code yX5_carried cX5_carried 11 (some .long)) (List.mem_of_getElem? (i := 0) rfl))⟩
set_option maxHeartbeats 4000000 in
set_option maxRecDepth 100000 in
theorem c_X5_carried (l : Launch) (ad : Nat → Nat) (i : Nat) (h_i : i < 2) (a a_n : Nat) (a_f : Nat → Int64) (hn : a_n ≤ 500) : Met l yX5_carried zX5_carried ({ frames := 6, cells := 0, slots := 0, locals := 156 }) (va_Pc [.ref (ad i), .ref a] (fun U => kU ad U ∧ tU a a_n a_f U)) (vp_Sl (fun r => r = f_X5_carried i a_n a_f)) 0 0 (fun _ => False) := by
  refine Met.ofW (cc := cX5_carried) (maxL := 11) (ret := (some .long)) (by decide) rfl ?_
  intro p e s m args below meth c s₁ B hml hv
  obtain ⟨rfl, hk, hr_a⟩ := hv
  have hx := B.exec
  have hb := B.bytes
  have hr := B.returns
  have hts : ∀ w ∈ zall, w.before _ s = true := fun w h => atoms_spec (ws := zX5_carried) B.pre w (List.mem_cons_of_mem _ h)
  have hown : s.vm.findClass RX5 = some m.cls := findClass_of_methodNamed B.named
  have hlocks := B.notSynchronized
  have hl := lv_entry ([.ref (ad i), .ref a]) (n := 11) (Nat.le_of_ble_eq_true rfl)
  rw [lg_entry_eq]
  generalize (lg_sl ([.ref (ad i), .ref a]) ++ List.replicate (11 - (lg_sl ([.ref (ad i), .ref a])).length) Slot.unset).toArray = ls at hl ⊢
  have hl : lv_has ls 11 [(0, .ref (ad i)), (1, .ref a)] := hl
  have hf : f_X5_carried i a_n a_f = (f_X5_carried_L8 i a_n a_f 501 (0 : Int64) (0 : Int64) (0 : Int32)) := rfl
  refine lv_lconst (v := 0) hx hb dX5_carried_0 (by decide) ?_
  refine lv_lstore_n (lv' := [(2, .long (0 : Int64)), (0, .ref (ad i)), (1, .ref a)]) hx hb dX5_carried_1 rfl hl (by decide) rfl (fun ls hl => ?_)
  refine lv_lconst (v := 0) hx hb dX5_carried_2 (by decide) ?_
  refine lv_lstore (lv' := [(4, .long (0 : Int64)), (2, .long (0 : Int64)), (0, .ref (ad i)), (1, .ref a)]) hx hb dX5_carried_3 hl (by decide) rfl (fun ls hl => ?_)
  refine lv_iconst (v := 0) hx hb dX5_carried_5 (by decide) ?_
  refine lv_istore (lv' := [(6, .int (0 : Int32)), (4, .long (0 : Int64)), (2, .long (0 : Int64)), (0, .ref (ad i)), (1, .ref a)]) hx hb dX5_carried_6 hl (by decide) rfl (fun ls hl => ?_)
  refine W_loop (α := Int64 × Int64 × Int32) (pcJ := 8) (nL := 11) (fun n v => f_X5_carried i a_n a_f = f_X5_carried_L8 i a_n a_f n v.1 v.2.1 v.2.2 ∧ (gInv 0 v.2.2 n)) (fun v => []) (fun v => [(0, .ref (ad i)), (1, .ref a), (2, .long v.1), (4, .long v.2.1), (6, .int v.2.2)]) (fun v hC => ?_) (fun n_8 ih_8 v ls hC hl => ?_) 501 ((0 : Int64), (0 : Int64), (0 : Int32)) ls ⟨hf, gInv.init0⟩ (lv_sub hl [3, 4, 2, 1, 0] rfl)
  · obtain ⟨q2, q4, q6⟩ := v
    have hJ : (gInv 0 q6 (0 : Nat)) := hC.2
    exact gInv.zero hJ
  · obtain ⟨q2, q4, q6⟩ := v
    obtain ⟨hf, hJ⟩ : (f_X5_carried i a_n a_f = f_X5_carried_L8 i a_n a_f (n_8 + 1) q2 q4 q6) ∧ (gInv 0 q6 (Nat.succ n_8)) := hC
    obtain ⟨rec_8, hrec_8⟩ : ∃ z, z = f_X5_carried_L8 i a_n a_f n_8 := ⟨_, rfl⟩
    have hf : f_X5_carried i a_n a_f = (f_X5_carried_3 i a_n a_f q2 q4 q6 rec_8) := by rw [hrec_8]; exact hf
    have hl : lv_has ls 11 [(0, .ref (ad i)), (1, .ref a), (2, .long q2), (4, .long q4), (6, .int q6)] := hl
    refine lv_iload hx hb dX5_carried_8 (lv_at hl 4 rfl) ?_
    refine lv_aload_n hx hb dX5_carried_10 rfl (lv_at hl 1 rfl) ?_
    refine va_tlen hx hb hr_a va_S.rf (v := (nI a_n)) rfl dX5_carried_11 ?_
    refine lv_icmp_ge (tgt := 60) hx hb dX5_carried_12 (by decide) (fun c_12 => ?_) (fun c_12 => ?_)
    · have hf : f_X5_carried i a_n a_f = q2 := hf.trans (if_pos c_12)
      refine lv_lload_n hx hb dX5_carried_60 rfl (lv_at hl 2 rfl) ?_
      exact W.lret hx hb hr (fun t ht hW => ⟨_, rfl, hf.symm, ht⟩) (fun q hq => absurd hq List.not_mem_nil) dX5_carried_61
    · have hf : f_X5_carried i a_n a_f = (f_X5_carried_2 i q2 q6 rec_8 (f_X2_minus i (a_f q6.toNatClampNeg) q4)) := hf.trans (if_neg c_12)
      refine lv_aload_n hx hb dX5_carried_15 rfl (lv_at hl 0 rfl) ?_
      refine lv_aload_n hx hb dX5_carried_16 rfl (lv_at hl 1 rfl) ?_
      refine lv_iload hx hb dX5_carried_17 (lv_at hl 4 rfl) ?_
      refine va_tl hx hb hr_a va_S.rf (gInv.at hn hJ c_12) (v := .long (a_f q6.toNatClampNeg)) rfl dX5_carried_19 ?_
      refine lv_lload hx hb dX5_carried_20 (lv_at hl 3 rfl) ?_
      refine vp_callSl (va_Run.run (va_runS (As := [.ref (ad i), .long (a_f q6.toNatClampNeg), .long q4]) (rest := []) ⟨hx, hb, hml, hown, hts⟩ (c_X2_minus l ad i h_i (a_f q6.toNatClampNeg) q4) (va_cwS 3 hts (gS iX2_minus (zin__r25 (.methodLink RX5 13 yX2_minus) (List.mem_of_getElem? (i := 1) rfl))) rfl rfl rfl (by decide +kernel) ⟨Nat.le_of_ble_eq_true rfl, Nat.le_of_ble_eq_true rfl⟩) ⟨fun a U g mk q => ⟨q.1, kU_bl q.2⟩, fun U hU hW => ⟨rfl, kU_mvH hk hU hW⟩⟩ rfl rfl hl.1 rfl (lv_room (Nat.le_of_ble_eq_true rfl)) dX5_carried_22 ⟨Nat.zero_le _, Nat.zero_le _⟩)) (fun r_22 hr_22 => ?_)
      subst hr_22
      refine lv_topl (fun v7_1 e_v7_1 => ?_)
      have hf : f_X5_carried i a_n a_f = (f_X5_carried_2 i q2 q6 rec_8 v7_1) := hf.trans (congrArg (fun z => (f_X5_carried_2 i q2 q6 rec_8 z)) e_v7_1.symm)
      refine lv_lstore (lv' := [(7, .long v7_1), (0, .ref (ad i)), (1, .ref a), (2, .long q2), (4, .long q4), (6, .int q6)]) hx hb dX5_carried_25 hl (by decide) rfl (fun ls hl => ?_)
      refine lv_aload_n hx hb dX5_carried_27 rfl (lv_at hl 1 rfl) ?_
      refine lv_lload_n hx hb dX5_carried_28 rfl (lv_at hl 3 rfl) ?_
      refine lv_lload hx hb dX5_carried_29 (lv_at hl 0 rfl) ?_
      refine vp_callSl (va_Run.run (va_runS (As := [.ref (ad i), .long q2, .long v7_1]) (rest := []) ⟨hx, hb, hml, hown, hts⟩ (c_X2_plus l ad i h_i q2 v7_1) (va_cwS 3 hts (gS iX2_plus (zin__r24 (.methodLink RX5 7 yX2_plus) (List.mem_of_getElem? (i := 21) rfl))) rfl rfl rfl (by decide +kernel) ⟨Nat.le_of_ble_eq_true rfl, Nat.le_of_ble_eq_true rfl⟩) ⟨fun a U g mk q => ⟨q.1, kU_bl q.2⟩, fun U hU hW => ⟨rfl, kU_mvH hk hU hW⟩⟩ rfl rfl hl.1 rfl (lv_room (Nat.le_of_ble_eq_true rfl)) dX5_carried_31 ⟨Nat.zero_le _, Nat.zero_le _⟩)) (fun r_31 hr_31 => ?_)
      subst hr_31
      refine lv_topl (fun v9_2 e_v9_2 => ?_)
      have hf : f_X5_carried i a_n a_f = (f_X5_carried_1 i q2 q6 rec_8 v7_1 v9_2) := hf.trans (congrArg (fun z => (f_X5_carried_1 i q2 q6 rec_8 v7_1 z)) e_v9_2.symm)
      refine lv_lstore (lv' := [(9, .long v9_2), (7, .long v7_1), (0, .ref (ad i)), (1, .ref a), (2, .long q2), (4, .long q4), (6, .int q6)]) hx hb dX5_carried_34 hl (by decide) rfl (fun ls hl => ?_)
      refine lv_aload_n hx hb dX5_carried_36 rfl (lv_at hl 2 rfl) ?_
      refine lv_aload_n hx hb dX5_carried_37 rfl (lv_at hl 2 rfl) ?_
      refine lv_lload hx hb dX5_carried_38 (lv_at hl 0 rfl) ?_
      refine lv_lload_n hx hb dX5_carried_40 rfl (lv_at hl 4 rfl) ?_
      refine vp_callSl (va_Run.run (va_runS (As := [.ref (ad i), .long v9_2, .long q2]) (rest := [.ref (ad i)]) ⟨hx, hb, hml, hown, hts⟩ (c_X2_minus l ad i h_i v9_2 q2) (va_cwS 3 hts (gS iX2_minus (zin__r25 (.methodLink RX5 13 yX2_minus) (List.mem_of_getElem? (i := 1) rfl))) rfl rfl rfl (by decide +kernel) ⟨Nat.le_of_ble_eq_true rfl, Nat.le_of_ble_eq_true rfl⟩) ⟨fun a U g mk q => ⟨q.1, kU_bl q.2⟩, fun U hU hW => ⟨rfl, kU_mvH hk hU hW⟩⟩ rfl rfl hl.1 rfl (lv_room (Nat.le_of_ble_eq_true rfl)) dX5_carried_41 ⟨Nat.zero_le _, Nat.zero_le _⟩)) (fun r_41 hr_41 => ?_)
      subst hr_41
      refine lv_lload hx hb dX5_carried_44 (lv_at hl 1 rfl) ?_
      refine vp_callSl (va_Run.run (va_runS (As := [.ref (ad i), .long (f_X2_minus i v9_2 q2), .long v7_1]) (rest := []) ⟨hx, hb, hml, hown, hts⟩ (c_X2_minus l ad i h_i (f_X2_minus i v9_2 q2) v7_1) (va_cwS 3 hts (gS iX2_minus (zin__r25 (.methodLink RX5 13 yX2_minus) (List.mem_of_getElem? (i := 1) rfl))) rfl rfl rfl (by decide +kernel) ⟨Nat.le_of_ble_eq_true rfl, Nat.le_of_ble_eq_true rfl⟩) ⟨fun a U g mk q => ⟨q.1, kU_bl q.2⟩, fun U hU hW => ⟨rfl, kU_mvH hk hU hW⟩⟩ rfl rfl hl.1 rfl (lv_room (Nat.le_of_ble_eq_true rfl)) dX5_carried_46 ⟨Nat.zero_le _, Nat.zero_le _⟩)) (fun r_46 hr_46 => ?_)
      subst hr_46
      refine lv_topl (fun v4_3 e_v4_3 => ?_)
      have hf : f_X5_carried i a_n a_f = (rec_8 v9_2 v4_3 (q6 + (1 : Int32))) := hf.trans (congrArg (fun z => (rec_8 v9_2 z (q6 + (1 : Int32)))) e_v4_3.symm)
      refine lv_lstore (lv' := [(4, .long v4_3), (9, .long v9_2), (7, .long v7_1), (0, .ref (ad i)), (1, .ref a), (2, .long q2), (6, .int q6)]) hx hb dX5_carried_49 hl (by decide) rfl (fun ls hl => ?_)
      refine lv_lload hx hb dX5_carried_51 (lv_at hl 1 rfl) ?_
      refine lv_lstore_n (lv' := [(2, .long v9_2), (4, .long v4_3), (9, .long v9_2), (7, .long v7_1), (0, .ref (ad i)), (1, .ref a), (6, .int q6)]) hx hb dX5_carried_53 rfl hl (by decide) rfl (fun ls hl => ?_)
      obtain ⟨v6_4, e_v6_4⟩ : ∃ y : Int32, y = (q6 + (1 : Int32)) := ⟨_, rfl⟩
      refine lv_iinc (v := v6_4) (lv' := [(6, .int v6_4), (2, .long v9_2), (4, .long v4_3), (9, .long v9_2), (7, .long v7_1), (0, .ref (ad i)), (1, .ref a)]) hx hb dX5_carried_54 hl (k := 6) rfl (by rw [e_v6_4]; rfl) (by decide) rfl (fun ls hl => ?_)
      have hf : f_X5_carried i a_n a_f = (rec_8 v9_2 v4_3 v6_4) := hf.trans (congrArg (fun z => (rec_8 v9_2 v4_3 z)) e_v6_4.symm)
      refine lv_goto (tgt := 8) hx hb dX5_carried_57 (by decide) ?_
      exact ih_8 (v9_2, v4_3, v6_4) ls ⟨hf.trans (congrFun (congrFun (congrFun hrec_8 _) _) _), (by rw [e_v6_4]; exact gInv.nx hn hJ c_12)⟩ (lv_sub hl [5, 6, 1, 2, 0] rfl)
