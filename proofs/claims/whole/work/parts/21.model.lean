def f_X7_unsigned (k : Nat) (x1 : Int64) : Int64 := (x1 &&& ((ksgn k) ^^^ (-1 : Int64)))
def zX7_unsigned : List Cond := .code yX7_unsigned cX7_unsigned 4 (some .long) :: zall
theorem iX7_unsigned : MWv RX7 yX7_unsigned (.code yX7_unsigned cX7_unsigned 4 (some .long)) := ⟨(zin__r7 (.instanceMethod yX7_unsigned) (List.mem_of_getElem? (i := 5) rfl)), (zin__r7 (.selects RX7 yX7_unsigned yX7_unsigned) (List.mem_of_getElem? (i := 6) rfl)), (zin__r1 (.initialized RX7) (List.mem_of_getElem? (i := 5) rfl)), (zin__r7 (.code yX7_unsigned cX7_unsigned 4 (some .long)) (List.mem_of_getElem? (i := 7) rfl))⟩
set_option maxHeartbeats 4000000 in
set_option maxRecDepth 100000 in
theorem c_X7_unsigned (l : Launch) (o : Nat) (r : Nat → Nat) (k : Nat) (h_k : k < 2) (x1 : Int64) : Met l yX7_unsigned zX7_unsigned ({ frames := 0, cells := 0, slots := 0, locals := 0 }) (va_Pc [.ref o, .int (nI k), .long x1] (fun U => mU o r U)) (vp_Sl (fun r => r = f_X7_unsigned k x1)) 0 0 (fun _ => False) := by
  refine Met.ofW (cc := cX7_unsigned) (maxL := 4) (ret := (some .long)) (by decide) rfl ?_
  intro p e s m args below meth c s₁ B hml hv
  obtain ⟨rfl, hm⟩ := hv
  have hx := B.exec
  have hb := B.bytes
  have hr := B.returns
  have hts : ∀ w ∈ zall, w.before _ s = true := fun w h => atoms_spec (ws := zX7_unsigned) B.pre w (List.mem_cons_of_mem _ h)
  have hown : s.vm.findClass RX7 = some m.cls := findClass_of_methodNamed B.named
  have hlocks := B.notSynchronized
  have hl := lv_entry ([.ref o, .int (nI k), .long x1]) (n := 4) (Nat.le_of_ble_eq_true rfl)
  rw [lg_entry_eq]
  generalize (lg_sl ([.ref o, .int (nI k), .long x1]) ++ List.replicate (4 - (lg_sl ([.ref o, .int (nI k), .long x1])).length) Slot.unset).toArray = ls at hl ⊢
  have hl : lv_has ls 4 [(0, .ref o), (1, .int (nI k)), (2, .long x1)] := hl
  have hf : f_X7_unsigned k x1 = (x1 &&& ((ksgn k) ^^^ (-1 : Int64))) := rfl
  refine lv_lload_n hx hb dX7_unsigned_0 rfl (lv_at hl 2 rfl) ?_
  refine lv_aload_n hx hb dX7_unsigned_1 rfl (lv_at hl 0 rfl) ?_
  refine vk_getf hx hb (mE_SIGN hm) va_S.rf hown (hts _ (zin__r2 (.fieldLink RX7 23 "ReckonBenchModel" "SIGN" "[J") (List.mem_of_getElem? (i := 15) rfl))) (fun _ h9 => h9) dX7_unsigned_2 ?_
  refine lv_iload_n hx hb dX7_unsigned_5 rfl (lv_at hl 1 rfl) ?_
  refine va_tl hx hb (mT_SIGN hm) va_S.rf (kin h_k) (v := .long (ksgn k)) (kev (fun j => Value.long (ksgn j)) h_k) dX7_unsigned_6 ?_
  refine lv_ldc2 (v := -1) hx hb hown (hts _ (zin__r7 (.constantLong RX7 90 (-1)) (List.mem_of_getElem? (i := 8) rfl))) dX7_unsigned_7 ?_
  refine lv_lxor hx hb dX7_unsigned_10 ?_
  refine lv_land hx hb dX7_unsigned_11 ?_
  exact W.lret hx hb hr (fun t ht hW => ⟨_, rfl, hf.symm, ht⟩) (fun q hq => absurd hq List.not_mem_nil) dX7_unsigned_12
def f_X7_minus_1 (k : Nat) (x1 : Int64) : Int32 := if (x1 &&& (ksgn k)) = (0 : Int64) then (0 : Int32) else (1 : Int32)
def f_X7_minus (k : Nat) (x1 : Int64) : Int32 := (f_X7_minus_1 k x1)
def zX7_minus : List Cond := .code yX7_minus cX7_minus 4 (some .boolean) :: zall
theorem iX7_minus : MWv RX7 yX7_minus (.code yX7_minus cX7_minus 4 (some .boolean)) := ⟨(zin__r8 (.instanceMethod yX7_minus) (List.mem_of_getElem? (i := 6) rfl)), (zin__r8 (.selects RX7 yX7_minus yX7_minus) (List.mem_of_getElem? (i := 7) rfl)), (zin__r1 (.initialized RX7) (List.mem_of_getElem? (i := 5) rfl)), (zin__r8 (.code yX7_minus cX7_minus 4 (some .boolean)) (List.mem_of_getElem? (i := 8) rfl))⟩
set_option maxHeartbeats 4000000 in
set_option maxRecDepth 100000 in
theorem c_X7_minus (l : Launch) (o : Nat) (r : Nat → Nat) (k : Nat) (h_k : k < 2) (x1 : Int64) : Met l yX7_minus zX7_minus ({ frames := 0, cells := 0, slots := 0, locals := 0 }) (va_Pc [.ref o, .int (nI k), .long x1] (fun U => mU o r U)) (vp_Si (fun r => r = f_X7_minus k x1)) 0 0 (fun _ => False) := by
  refine Met.ofW (cc := cX7_minus) (maxL := 4) (ret := (some .boolean)) (by decide) rfl ?_
  intro p e s m args below meth c s₁ B hml hv
  obtain ⟨rfl, hm⟩ := hv
  have hx := B.exec
  have hb := B.bytes
  have hr := B.returns
  have hts : ∀ w ∈ zall, w.before _ s = true := fun w h => atoms_spec (ws := zX7_minus) B.pre w (List.mem_cons_of_mem _ h)
  have hown : s.vm.findClass RX7 = some m.cls := findClass_of_methodNamed B.named
  have hlocks := B.notSynchronized
  have hl := lv_entry ([.ref o, .int (nI k), .long x1]) (n := 4) (Nat.le_of_ble_eq_true rfl)
  rw [lg_entry_eq]
  generalize (lg_sl ([.ref o, .int (nI k), .long x1]) ++ List.replicate (4 - (lg_sl ([.ref o, .int (nI k), .long x1])).length) Slot.unset).toArray = ls at hl ⊢
  have hl : lv_has ls 4 [(0, .ref o), (1, .int (nI k)), (2, .long x1)] := hl
  have hf : f_X7_minus k x1 = (f_X7_minus_1 k x1) := rfl
  refine lv_lload_n hx hb dX7_minus_0 rfl (lv_at hl 2 rfl) ?_
  refine lv_aload_n hx hb dX7_minus_1 rfl (lv_at hl 0 rfl) ?_
  refine vk_getf hx hb (mE_SIGN hm) va_S.rf hown (hts _ (zin__r2 (.fieldLink RX7 23 "ReckonBenchModel" "SIGN" "[J") (List.mem_of_getElem? (i := 15) rfl))) (fun _ h9 => h9) dX7_minus_2 ?_
  refine lv_iload_n hx hb dX7_minus_5 rfl (lv_at hl 1 rfl) ?_
  refine va_tl hx hb (mT_SIGN hm) va_S.rf (kin h_k) (v := .long (ksgn k)) (kev (fun j => Value.long (ksgn j)) h_k) dX7_minus_6 ?_
  refine lv_land hx hb dX7_minus_7 ?_
  refine lv_lconst (v := 0) hx hb dX7_minus_8 (by decide) ?_
  refine W.lcmp hx hb dX7_minus_9 ?_
  refine lv_if_eq (tgt := 17) hx hb dX7_minus_10 (by decide) (fun c_10 => ?_) (fun c_10 => ?_)
  · have c_10 : (x1 &&& (ksgn k)) = (0 : Int64) := (lg_cmp_eq (x1 &&& (ksgn k)) (0 : Int64)).mp c_10
    have hf : f_X7_minus k x1 = (0 : Int32) := hf.trans (if_pos c_10)
    refine lv_iconst (v := 0) hx hb dX7_minus_17 (by decide) ?_
    exact W.zret hx hb hr rfl (fun t ht hW => ⟨_, rfl, hf.symm, ht⟩) (fun q hq => absurd hq List.not_mem_nil) dX7_minus_18
  · have c_10 : ¬ ((x1 &&& (ksgn k)) = (0 : Int64)) := fun h9 => c_10 ((lg_cmp_eq (x1 &&& (ksgn k)) (0 : Int64)).mpr h9)
    have hf : f_X7_minus k x1 = (1 : Int32) := hf.trans (if_neg c_10)
    refine lv_iconst (v := 1) hx hb dX7_minus_13 (by decide) ?_
    refine lv_goto (tgt := 18) hx hb dX7_minus_14 (by decide) ?_
    exact W.zret hx hb hr rfl (fun t ht hW => ⟨_, rfl, hf.symm, ht⟩) (fun q hq => absurd hq List.not_mem_nil) dX7_minus_18
def f_X7_clean_1 (k : Nat) (w_1 : Int64) : Int64 := if (f_X7_unsigned k w_1) ≤ (kinf k) then w_1 else (knan k)
def f_X7_clean_2 (k : Nat) (x1 : Int64) : Int64 := if (nI k) = (1 : Int32) then (f_X7_clean_1 k (x1 &&& (4294967295 : Int64))) else (f_X7_clean_1 k x1)
def f_X7_clean (k : Nat) (x1 : Int64) : Int64 := (f_X7_clean_2 k x1)
def zX7_clean : List Cond := .code yX7_clean cX7_clean 6 (some .long) :: zall
theorem iX7_clean : MWv RX7 yX7_clean (.code yX7_clean cX7_clean 6 (some .long)) := ⟨(zin__r7 (.instanceMethod yX7_clean) (List.mem_of_getElem? (i := 0) rfl)), (zin__r7 (.selects RX7 yX7_clean yX7_clean) (List.mem_of_getElem? (i := 1) rfl)), (zin__r1 (.initialized RX7) (List.mem_of_getElem? (i := 5) rfl)), (zin__r7 (.code yX7_clean cX7_clean 6 (some .long)) (List.mem_of_getElem? (i := 2) rfl))⟩
set_option maxHeartbeats 4000000 in
set_option maxRecDepth 100000 in
theorem c_X7_clean (l : Launch) (o : Nat) (r : Nat → Nat) (k : Nat) (h_k : k < 2) (x1 : Int64) : Met l yX7_clean zX7_clean ({ frames := 1, cells := 0, slots := 0, locals := 23 }) (va_Pc [.ref o, .int (nI k), .long x1] (fun U => mU o r U)) (vp_Sl (fun r => r = f_X7_clean k x1)) 0 0 (fun _ => False) := by
  refine Met.ofW (cc := cX7_clean) (maxL := 6) (ret := (some .long)) (by decide) rfl ?_
  intro p e s m args below meth c s₁ B hml hv
  obtain ⟨rfl, hm⟩ := hv
  have hx := B.exec
  have hb := B.bytes
  have hr := B.returns
  have hts : ∀ w ∈ zall, w.before _ s = true := fun w h => atoms_spec (ws := zX7_clean) B.pre w (List.mem_cons_of_mem _ h)
  have hown : s.vm.findClass RX7 = some m.cls := findClass_of_methodNamed B.named
  have hlocks := B.notSynchronized
  have hl := lv_entry ([.ref o, .int (nI k), .long x1]) (n := 6) (Nat.le_of_ble_eq_true rfl)
  rw [lg_entry_eq]
  generalize (lg_sl ([.ref o, .int (nI k), .long x1]) ++ List.replicate (6 - (lg_sl ([.ref o, .int (nI k), .long x1])).length) Slot.unset).toArray = ls at hl ⊢
  have hl : lv_has ls 6 [(0, .ref o), (1, .int (nI k)), (2, .long x1)] := hl
  have hf : f_X7_clean k x1 = (f_X7_clean_2 k x1) := rfl
  refine lv_iload_n hx hb dX7_clean_0 rfl (lv_at hl 1 rfl) ?_
  refine lv_iconst (v := 1) hx hb dX7_clean_1 (by decide) ?_
  refine W_cut (α := Int64) (pcJ := 14) (nL := 6) (fun v => f_X7_clean k x1 = (f_X7_clean_1 k v)) (fun v => [.long v]) (fun v => [(0, .ref o), (1, .int (nI k))]) (fun w_1 ls hf hl => ?_) (fun K_14 => ?_)
  · have hf : f_X7_clean k x1 = (f_X7_clean_1 k w_1) := hf
    have hl : lv_has ls 6 [(0, .ref o), (1, .int (nI k))] := hl
    refine lv_lstore (lv' := [(4, .long w_1), (0, .ref o), (1, .int (nI k))]) hx hb dX7_clean_14 hl (by decide) rfl (fun ls hl => ?_)
    refine lv_aload_n hx hb dX7_clean_16 rfl (lv_at hl 1 rfl) ?_
    refine lv_iload_n hx hb dX7_clean_17 rfl (lv_at hl 2 rfl) ?_
    refine lv_lload hx hb dX7_clean_18 (lv_at hl 0 rfl) ?_
    refine vp_callSl (va_Run.run (va_runV (As := [.int (nI k), .long w_1]) (rest := []) ⟨hx, hb, hml, hown, hts⟩ (c_X7_unsigned l o r k h_k w_1) (cwV 2 hts (gV iX7_unsigned (zin__r7 (.methodLink RX7 94 yX7_unsigned) (List.mem_of_getElem? (i := 4) rfl))) rfl rfl rfl (by decide +kernel) ⟨Nat.le_of_ble_eq_true rfl, Nat.le_of_ble_eq_true rfl⟩) ⟨fun a U g mk q => ⟨q.1, mU_bl q.2⟩, (mU_rv hm), fun U hU hW => ⟨rfl, mU_mv hm hU hW⟩⟩ rfl rfl hl.1 rfl (lv_room (Nat.le_of_ble_eq_true rfl)) dX7_clean_20 ⟨Nat.zero_le _, Nat.zero_le _⟩)) (fun r_20 hr_20 => ?_)
    subst hr_20
    refine lv_aload_n hx hb dX7_clean_23 rfl (lv_at hl 1 rfl) ?_
    refine vk_getf hx hb (mE_INFINITE hm) va_S.rf hown (hts _ (zin__r2 (.fieldLink RX7 31 "ReckonBenchModel" "INFINITE" "[J") (List.mem_of_getElem? (i := 18) rfl))) (fun _ h9 => h9) dX7_clean_24 ?_
    refine lv_iload_n hx hb dX7_clean_27 rfl (lv_at hl 2 rfl) ?_
    refine va_tl hx hb (mT_INFINITE hm) va_S.rf (kin h_k) (v := .long (kinf k)) (kev (fun j => Value.long (kinf j)) h_k) dX7_clean_28 ?_
    refine W.lcmp hx hb dX7_clean_29 ?_
    refine lv_if_le (tgt := 42) hx hb dX7_clean_30 (by decide) (fun c_30 => ?_) (fun c_30 => ?_)
    · have c_30 : (f_X7_unsigned k w_1) ≤ (kinf k) := (lg_cmp_le (f_X7_unsigned k w_1) (kinf k)).mp c_30
      have hf : f_X7_clean k x1 = w_1 := hf.trans (if_pos c_30)
      refine lv_lload hx hb dX7_clean_42 (lv_at hl 0 rfl) ?_
      exact W.lret hx hb hr (fun t ht hW => ⟨_, rfl, hf.symm, ht⟩) (fun q hq => absurd hq List.not_mem_nil) dX7_clean_44
    · have c_30 : ¬ ((f_X7_unsigned k w_1) ≤ (kinf k)) := fun h9 => c_30 ((lg_cmp_le (f_X7_unsigned k w_1) (kinf k)).mpr h9)
      have hf : f_X7_clean k x1 = (knan k) := hf.trans (if_neg c_30)
      refine lv_aload_n hx hb dX7_clean_33 rfl (lv_at hl 1 rfl) ?_
      refine vk_getf hx hb (mE_NONE hm) va_S.rf hown (hts _ (zin__r2 (.fieldLink RX7 38 "ReckonBenchModel" "NONE" "[J") (List.mem_of_getElem? (i := 21) rfl))) (fun _ h9 => h9) dX7_clean_34 ?_
      refine lv_iload_n hx hb dX7_clean_37 rfl (lv_at hl 2 rfl) ?_
      refine va_tl hx hb (mT_NONE hm) va_S.rf (kin h_k) (v := .long (knan k)) (kev (fun j => Value.long (knan j)) h_k) dX7_clean_38 ?_
      refine lv_goto (tgt := 44) hx hb dX7_clean_39 (by decide) ?_
      exact W.lret hx hb hr (fun t ht hW => ⟨_, rfl, hf.symm, ht⟩) (fun q hq => absurd hq List.not_mem_nil) dX7_clean_44
  refine lv_icmp_ne (tgt := 13) hx hb dX7_clean_2 (by decide) (fun c_2 => ?_) (fun c_2 => ?_)
  · have hf : f_X7_clean k x1 = (f_X7_clean_1 k x1) := hf.trans (if_neg c_2)
    refine lv_lload_n hx hb dX7_clean_13 rfl (lv_at hl 2 rfl) ?_
    exact K_14 x1 ls hf (lv_sub hl [0, 1] rfl)
  · have hf : f_X7_clean k x1 = (f_X7_clean_1 k (x1 &&& (4294967295 : Int64))) := hf.trans (if_pos c_2)
    refine lv_lload_n hx hb dX7_clean_5 rfl (lv_at hl 2 rfl) ?_
    refine lv_ldc2 (v := 4294967295) hx hb hown (hts _ (zin__r7 (.constantLong RX7 92 (4294967295)) (List.mem_of_getElem? (i := 3) rfl))) dX7_clean_6 ?_
    refine lv_land hx hb dX7_clean_9 ?_
    refine lv_goto (tgt := 14) hx hb dX7_clean_10 (by decide) ?_
    exact K_14 (x1 &&& (4294967295 : Int64)) ls hf (lv_sub hl [0, 1] rfl)
def f_X7_none_1 (k : Nat) (x1 : Int64) : Int32 := if x1 = (knan k) then (1 : Int32) else (0 : Int32)
def f_X7_none (k : Nat) (x1 : Int64) : Int32 := (f_X7_none_1 k x1)
def zX7_none : List Cond := .code yX7_none cX7_none 4 (some .boolean) :: zall
theorem iX7_none : MWv RX7 yX7_none (.code yX7_none cX7_none 4 (some .boolean)) := ⟨(zin__r7 (.instanceMethod yX7_none) (List.mem_of_getElem? (i := 18) rfl)), (zin__r7 (.selects RX7 yX7_none yX7_none) (List.mem_of_getElem? (i := 19) rfl)), (zin__r1 (.initialized RX7) (List.mem_of_getElem? (i := 5) rfl)), (zin__r7 (.code yX7_none cX7_none 4 (some .boolean)) (List.mem_of_getElem? (i := 20) rfl))⟩
set_option maxHeartbeats 4000000 in
set_option maxRecDepth 100000 in
theorem c_X7_none (l : Launch) (o : Nat) (r : Nat → Nat) (k : Nat) (h_k : k < 2) (x1 : Int64) : Met l yX7_none zX7_none ({ frames := 0, cells := 0, slots := 0, locals := 0 }) (va_Pc [.ref o, .int (nI k), .long x1] (fun U => mU o r U)) (vp_Si (fun r => r = f_X7_none k x1)) 0 0 (fun _ => False) := by
  refine Met.ofW (cc := cX7_none) (maxL := 4) (ret := (some .boolean)) (by decide) rfl ?_
  intro p e s m args below meth c s₁ B hml hv
  obtain ⟨rfl, hm⟩ := hv
  have hx := B.exec
  have hb := B.bytes
  have hr := B.returns
  have hts : ∀ w ∈ zall, w.before _ s = true := fun w h => atoms_spec (ws := zX7_none) B.pre w (List.mem_cons_of_mem _ h)
  have hown : s.vm.findClass RX7 = some m.cls := findClass_of_methodNamed B.named
  have hlocks := B.notSynchronized
  have hl := lv_entry ([.ref o, .int (nI k), .long x1]) (n := 4) (Nat.le_of_ble_eq_true rfl)
  rw [lg_entry_eq]
  generalize (lg_sl ([.ref o, .int (nI k), .long x1]) ++ List.replicate (4 - (lg_sl ([.ref o, .int (nI k), .long x1])).length) Slot.unset).toArray = ls at hl ⊢
  have hl : lv_has ls 4 [(0, .ref o), (1, .int (nI k)), (2, .long x1)] := hl
  have hf : f_X7_none k x1 = (f_X7_none_1 k x1) := rfl
  refine lv_lload_n hx hb dX7_none_0 rfl (lv_at hl 2 rfl) ?_
  refine lv_aload_n hx hb dX7_none_1 rfl (lv_at hl 0 rfl) ?_
  refine vk_getf hx hb (mE_NONE hm) va_S.rf hown (hts _ (zin__r2 (.fieldLink RX7 38 "ReckonBenchModel" "NONE" "[J") (List.mem_of_getElem? (i := 21) rfl))) (fun _ h9 => h9) dX7_none_2 ?_
  refine lv_iload_n hx hb dX7_none_5 rfl (lv_at hl 1 rfl) ?_
  refine va_tl hx hb (mT_NONE hm) va_S.rf (kin h_k) (v := .long (knan k)) (kev (fun j => Value.long (knan j)) h_k) dX7_none_6 ?_
  refine W.lcmp hx hb dX7_none_7 ?_
  refine lv_if_ne (tgt := 15) hx hb dX7_none_8 (by decide) (fun c_8 => ?_) (fun c_8 => ?_)
  · have c_8 : ¬ (x1 = (knan k)) := fun h9 => c_8 ((lg_cmp_eq x1 (knan k)).mpr h9)
    have hf : f_X7_none k x1 = (0 : Int32) := hf.trans (if_neg c_8)
    refine lv_iconst (v := 0) hx hb dX7_none_15 (by decide) ?_
    exact W.zret hx hb hr rfl (fun t ht hW => ⟨_, rfl, hf.symm, ht⟩) (fun q hq => absurd hq List.not_mem_nil) dX7_none_16
  · have c_8 : x1 = (knan k) := (lg_cmp_eq x1 (knan k)).mp c_8
    have hf : f_X7_none k x1 = (1 : Int32) := hf.trans (if_pos c_8)
    refine lv_iconst (v := 1) hx hb dX7_none_11 (by decide) ?_
    refine lv_goto (tgt := 16) hx hb dX7_none_12 (by decide) ?_
    exact W.zret hx hb hr rfl (fun t ht hW => ⟨_, rfl, hf.symm, ht⟩) (fun q hq => absurd hq List.not_mem_nil) dX7_none_16
def f_X7_infinite_1 (k : Nat) (x1 : Int64) : Int32 := if (f_X7_unsigned k x1) = (kinf k) then (1 : Int32) else (0 : Int32)
def f_X7_infinite (k : Nat) (x1 : Int64) : Int32 := (f_X7_infinite_1 k x1)
def zX7_infinite : List Cond := .code yX7_infinite cX7_infinite 4 (some .boolean) :: zall
theorem iX7_infinite : MWv RX7 yX7_infinite (.code yX7_infinite cX7_infinite 4 (some .boolean)) := ⟨(zin__r8 (.instanceMethod yX7_infinite) (List.mem_of_getElem? (i := 2) rfl)), (zin__r8 (.selects RX7 yX7_infinite yX7_infinite) (List.mem_of_getElem? (i := 3) rfl)), (zin__r1 (.initialized RX7) (List.mem_of_getElem? (i := 5) rfl)), (zin__r8 (.code yX7_infinite cX7_infinite 4 (some .boolean)) (List.mem_of_getElem? (i := 4) rfl))⟩
set_option maxHeartbeats 4000000 in
set_option maxRecDepth 100000 in
theorem c_X7_infinite (l : Launch) (o : Nat) (r : Nat → Nat) (k : Nat) (h_k : k < 2) (x1 : Int64) : Met l yX7_infinite zX7_infinite ({ frames := 1, cells := 0, slots := 0, locals := 23 }) (va_Pc [.ref o, .int (nI k), .long x1] (fun U => mU o r U)) (vp_Si (fun r => r = f_X7_infinite k x1)) 0 0 (fun _ => False) := by
  refine Met.ofW (cc := cX7_infinite) (maxL := 4) (ret := (some .boolean)) (by decide) rfl ?_
  intro p e s m args below meth c s₁ B hml hv
  obtain ⟨rfl, hm⟩ := hv
  have hx := B.exec
  have hb := B.bytes
  have hr := B.returns
  have hts : ∀ w ∈ zall, w.before _ s = true := fun w h => atoms_spec (ws := zX7_infinite) B.pre w (List.mem_cons_of_mem _ h)
  have hown : s.vm.findClass RX7 = some m.cls := findClass_of_methodNamed B.named
  have hlocks := B.notSynchronized
  have hl := lv_entry ([.ref o, .int (nI k), .long x1]) (n := 4) (Nat.le_of_ble_eq_true rfl)
  rw [lg_entry_eq]
  generalize (lg_sl ([.ref o, .int (nI k), .long x1]) ++ List.replicate (4 - (lg_sl ([.ref o, .int (nI k), .long x1])).length) Slot.unset).toArray = ls at hl ⊢
  have hl : lv_has ls 4 [(0, .ref o), (1, .int (nI k)), (2, .long x1)] := hl
  have hf : f_X7_infinite k x1 = (f_X7_infinite_1 k x1) := rfl
  refine lv_aload_n hx hb dX7_infinite_0 rfl (lv_at hl 0 rfl) ?_
  refine lv_iload_n hx hb dX7_infinite_1 rfl (lv_at hl 1 rfl) ?_
  refine lv_lload_n hx hb dX7_infinite_2 rfl (lv_at hl 2 rfl) ?_
  refine vp_callSl (va_Run.run (va_runV (As := [.int (nI k), .long x1]) (rest := []) ⟨hx, hb, hml, hown, hts⟩ (c_X7_unsigned l o r k h_k x1) (cwV 2 hts (gV iX7_unsigned (zin__r7 (.methodLink RX7 94 yX7_unsigned) (List.mem_of_getElem? (i := 4) rfl))) rfl rfl rfl (by decide +kernel) ⟨Nat.le_of_ble_eq_true rfl, Nat.le_of_ble_eq_true rfl⟩) ⟨fun a U g mk q => ⟨q.1, mU_bl q.2⟩, (mU_rv hm), fun U hU hW => ⟨rfl, mU_mv hm hU hW⟩⟩ rfl rfl hl.1 rfl (lv_room (Nat.le_of_ble_eq_true rfl)) dX7_infinite_3 ⟨Nat.zero_le _, Nat.zero_le _⟩)) (fun r_3 hr_3 => ?_)
  subst hr_3
  refine lv_aload_n hx hb dX7_infinite_6 rfl (lv_at hl 0 rfl) ?_
  refine vk_getf hx hb (mE_INFINITE hm) va_S.rf hown (hts _ (zin__r2 (.fieldLink RX7 31 "ReckonBenchModel" "INFINITE" "[J") (List.mem_of_getElem? (i := 18) rfl))) (fun _ h9 => h9) dX7_infinite_7 ?_
  refine lv_iload_n hx hb dX7_infinite_10 rfl (lv_at hl 1 rfl) ?_
  refine va_tl hx hb (mT_INFINITE hm) va_S.rf (kin h_k) (v := .long (kinf k)) (kev (fun j => Value.long (kinf j)) h_k) dX7_infinite_11 ?_
  refine W.lcmp hx hb dX7_infinite_12 ?_
  refine lv_if_ne (tgt := 20) hx hb dX7_infinite_13 (by decide) (fun c_13 => ?_) (fun c_13 => ?_)
  · have c_13 : ¬ ((f_X7_unsigned k x1) = (kinf k)) := fun h9 => c_13 ((lg_cmp_eq (f_X7_unsigned k x1) (kinf k)).mpr h9)
    have hf : f_X7_infinite k x1 = (0 : Int32) := hf.trans (if_neg c_13)
    refine lv_iconst (v := 0) hx hb dX7_infinite_20 (by decide) ?_
    exact W.zret hx hb hr rfl (fun t ht hW => ⟨_, rfl, hf.symm, ht⟩) (fun q hq => absurd hq List.not_mem_nil) dX7_infinite_21
  · have c_13 : (f_X7_unsigned k x1) = (kinf k) := (lg_cmp_eq (f_X7_unsigned k x1) (kinf k)).mp c_13
    have hf : f_X7_infinite k x1 = (1 : Int32) := hf.trans (if_pos c_13)
    refine lv_iconst (v := 1) hx hb dX7_infinite_16 (by decide) ?_
    refine lv_goto (tgt := 21) hx hb dX7_infinite_17 (by decide) ?_
    exact W.zret hx hb hr rfl (fun t ht hW => ⟨_, rfl, hf.symm, ht⟩) (fun q hq => absurd hq List.not_mem_nil) dX7_infinite_21
def f_X7_zero_1 (k : Nat) (x1 : Int64) : Int32 := if (f_X7_unsigned k x1) = (0 : Int64) then (1 : Int32) else (0 : Int32)
def f_X7_zero (k : Nat) (x1 : Int64) : Int32 := (f_X7_zero_1 k x1)
def zX7_zero : List Cond := .code yX7_zero cX7_zero 4 (some .boolean) :: zall
theorem iX7_zero : MWv RX7 yX7_zero (.code yX7_zero cX7_zero 4 (some .boolean)) := ⟨(zin__r7 (.instanceMethod yX7_zero) (List.mem_of_getElem? (i := 22) rfl)), (zin__r7 (.selects RX7 yX7_zero yX7_zero) (List.mem_of_getElem? (i := 23) rfl)), (zin__r1 (.initialized RX7) (List.mem_of_getElem? (i := 5) rfl)), (zin__r8 (.code yX7_zero cX7_zero 4 (some .boolean)) (List.mem_of_getElem? (i := 0) rfl))⟩
set_option maxHeartbeats 4000000 in
set_option maxRecDepth 100000 in
theorem c_X7_zero (l : Launch) (o : Nat) (r : Nat → Nat) (k : Nat) (h_k : k < 2) (x1 : Int64) : Met l yX7_zero zX7_zero ({ frames := 1, cells := 0, slots := 0, locals := 23 }) (va_Pc [.ref o, .int (nI k), .long x1] (fun U => mU o r U)) (vp_Si (fun r => r = f_X7_zero k x1)) 0 0 (fun _ => False) := by
  refine Met.ofW (cc := cX7_zero) (maxL := 4) (ret := (some .boolean)) (by decide) rfl ?_
  intro p e s m args below meth c s₁ B hml hv
  obtain ⟨rfl, hm⟩ := hv
  have hx := B.exec
  have hb := B.bytes
  have hr := B.returns
  have hts : ∀ w ∈ zall, w.before _ s = true := fun w h => atoms_spec (ws := zX7_zero) B.pre w (List.mem_cons_of_mem _ h)
  have hown : s.vm.findClass RX7 = some m.cls := findClass_of_methodNamed B.named
  have hlocks := B.notSynchronized
  have hl := lv_entry ([.ref o, .int (nI k), .long x1]) (n := 4) (Nat.le_of_ble_eq_true rfl)
  rw [lg_entry_eq]
  generalize (lg_sl ([.ref o, .int (nI k), .long x1]) ++ List.replicate (4 - (lg_sl ([.ref o, .int (nI k), .long x1])).length) Slot.unset).toArray = ls at hl ⊢
  have hl : lv_has ls 4 [(0, .ref o), (1, .int (nI k)), (2, .long x1)] := hl
  have hf : f_X7_zero k x1 = (f_X7_zero_1 k x1) := rfl
  refine lv_aload_n hx hb dX7_zero_0 rfl (lv_at hl 0 rfl) ?_
  refine lv_iload_n hx hb dX7_zero_1 rfl (lv_at hl 1 rfl) ?_
  refine lv_lload_n hx hb dX7_zero_2 rfl (lv_at hl 2 rfl) ?_
  refine vp_callSl (va_Run.run (va_runV (As := [.int (nI k), .long x1]) (rest := []) ⟨hx, hb, hml, hown, hts⟩ (c_X7_unsigned l o r k h_k x1) (cwV 2 hts (gV iX7_unsigned (zin__r7 (.methodLink RX7 94 yX7_unsigned) (List.mem_of_getElem? (i := 4) rfl))) rfl rfl rfl (by decide +kernel) ⟨Nat.le_of_ble_eq_true rfl, Nat.le_of_ble_eq_true rfl⟩) ⟨fun a U g mk q => ⟨q.1, mU_bl q.2⟩, (mU_rv hm), fun U hU hW => ⟨rfl, mU_mv hm hU hW⟩⟩ rfl rfl hl.1 rfl (lv_room (Nat.le_of_ble_eq_true rfl)) dX7_zero_3 ⟨Nat.zero_le _, Nat.zero_le _⟩)) (fun r_3 hr_3 => ?_)
  subst hr_3
  refine lv_lconst (v := 0) hx hb dX7_zero_6 (by decide) ?_
  refine W.lcmp hx hb dX7_zero_7 ?_
  refine lv_if_ne (tgt := 15) hx hb dX7_zero_8 (by decide) (fun c_8 => ?_) (fun c_8 => ?_)
  · have c_8 : ¬ ((f_X7_unsigned k x1) = (0 : Int64)) := fun h9 => c_8 ((lg_cmp_eq (f_X7_unsigned k x1) (0 : Int64)).mpr h9)
    have hf : f_X7_zero k x1 = (0 : Int32) := hf.trans (if_neg c_8)
    refine lv_iconst (v := 0) hx hb dX7_zero_15 (by decide) ?_
    exact W.zret hx hb hr rfl (fun t ht hW => ⟨_, rfl, hf.symm, ht⟩) (fun q hq => absurd hq List.not_mem_nil) dX7_zero_16
  · have c_8 : (f_X7_unsigned k x1) = (0 : Int64) := (lg_cmp_eq (f_X7_unsigned k x1) (0 : Int64)).mp c_8
    have hf : f_X7_zero k x1 = (1 : Int32) := hf.trans (if_pos c_8)
    refine lv_iconst (v := 1) hx hb dX7_zero_11 (by decide) ?_
    refine lv_goto (tgt := 16) hx hb dX7_zero_12 (by decide) ?_
    exact W.zret hx hb hr rfl (fun t ht hW => ⟨_, rfl, hf.symm, ht⟩) (fun q hq => absurd hq List.not_mem_nil) dX7_zero_16
def f_X7_sortOf_1 (k : Nat) (x1 : Int64) (w_1 : Int32) : Int32 := if (f_X7_minus k x1) = 0 then (w_1 + (0 : Int32)) else (w_1 + (4 : Int32))
def f_X7_sortOf_2 (k : Nat) (x1 : Int64) : Int32 := if (f_X7_infinite k x1) = 0 then (f_X7_sortOf_1 k x1 (1 : Int32)) else (f_X7_sortOf_1 k x1 (2 : Int32))
def f_X7_sortOf_3 (k : Nat) (x1 : Int64) : Int32 := if (f_X7_zero k x1) = 0 then (f_X7_sortOf_2 k x1) else (f_X7_sortOf_1 k x1 (0 : Int32))
def f_X7_sortOf_4 (k : Nat) (x1 : Int64) : Int32 := if (f_X7_none k x1) = 0 then (f_X7_sortOf_3 k x1) else (3 : Int32)
def f_X7_sortOf (k : Nat) (x1 : Int64) : Int32 := (f_X7_sortOf_4 k x1)
def zX7_sortOf : List Cond := .code yX7_sortOf cX7_sortOf 4 (some .int) :: zall
theorem iX7_sortOf : MWv RX7 yX7_sortOf (.code yX7_sortOf cX7_sortOf 4 (some .int)) := ⟨(zin__r7 (.instanceMethod yX7_sortOf) (List.mem_of_getElem? (i := 14) rfl)), (zin__r7 (.selects RX7 yX7_sortOf yX7_sortOf) (List.mem_of_getElem? (i := 15) rfl)), (zin__r1 (.initialized RX7) (List.mem_of_getElem? (i := 5) rfl)), (zin__r7 (.code yX7_sortOf cX7_sortOf 4 (some .int)) (List.mem_of_getElem? (i := 16) rfl))⟩
set_option maxHeartbeats 4000000 in
set_option maxRecDepth 100000 in
theorem c_X7_sortOf (l : Launch) (o : Nat) (r : Nat → Nat) (k : Nat) (h_k : k < 2) (x1 : Int64) : Met l yX7_sortOf zX7_sortOf ({ frames := 2, cells := 0, slots := 0, locals := 46 }) (va_Pc [.ref o, .int (nI k), .long x1] (fun U => mU o r U)) (vp_Si (fun r => r = f_X7_sortOf k x1)) 0 0 (fun _ => False) := by
  refine Met.ofW (cc := cX7_sortOf) (maxL := 4) (ret := (some .int)) (by decide) rfl ?_
  intro p e s m args below meth c s₁ B hml hv
  obtain ⟨rfl, hm⟩ := hv
  have hx := B.exec
  have hb := B.bytes
  have hr := B.returns
  have hts : ∀ w ∈ zall, w.before _ s = true := fun w h => atoms_spec (ws := zX7_sortOf) B.pre w (List.mem_cons_of_mem _ h)
  have hown : s.vm.findClass RX7 = some m.cls := findClass_of_methodNamed B.named
  have hlocks := B.notSynchronized
  have hl := lv_entry ([.ref o, .int (nI k), .long x1]) (n := 4) (Nat.le_of_ble_eq_true rfl)
  rw [lg_entry_eq]
  generalize (lg_sl ([.ref o, .int (nI k), .long x1]) ++ List.replicate (4 - (lg_sl ([.ref o, .int (nI k), .long x1])).length) Slot.unset).toArray = ls at hl ⊢
  have hl : lv_has ls 4 [(0, .ref o), (1, .int (nI k)), (2, .long x1)] := hl
  have hf : f_X7_sortOf k x1 = (f_X7_sortOf_4 k x1) := rfl
  refine lv_aload_n hx hb dX7_sortOf_0 rfl (lv_at hl 0 rfl) ?_
  refine lv_iload_n hx hb dX7_sortOf_1 rfl (lv_at hl 1 rfl) ?_
  refine lv_lload_n hx hb dX7_sortOf_2 rfl (lv_at hl 2 rfl) ?_
  refine vp_callSi (va_Run.run (va_runV (As := [.int (nI k), .long x1]) (rest := []) ⟨hx, hb, hml, hown, hts⟩ (c_X7_none l o r k h_k x1) (cwV 2 hts (gV iX7_none (zin__r7 (.methodLink RX7 98 yX7_none) (List.mem_of_getElem? (i := 17) rfl))) rfl rfl rfl (by decide +kernel) ⟨Nat.le_of_ble_eq_true rfl, Nat.le_of_ble_eq_true rfl⟩) ⟨fun a U g mk q => ⟨q.1, mU_bl q.2⟩, (mU_rv hm), fun U hU hW => ⟨rfl, mU_mv hm hU hW⟩⟩ rfl rfl hl.1 rfl (lv_room (Nat.le_of_ble_eq_true rfl)) dX7_sortOf_3 ⟨Nat.zero_le _, Nat.zero_le _⟩)) (fun r_3 hr_3 => ?_)
  subst hr_3
  refine lv_if_eq (tgt := 11) hx hb dX7_sortOf_6 (by decide) (fun c_6 => ?_) (fun c_6 => ?_)
  · have hf : f_X7_sortOf k x1 = (f_X7_sortOf_3 k x1) := hf.trans (if_pos c_6)
    refine lv_aload_n hx hb dX7_sortOf_11 rfl (lv_at hl 0 rfl) ?_
    refine lv_iload_n hx hb dX7_sortOf_12 rfl (lv_at hl 1 rfl) ?_
    refine lv_lload_n hx hb dX7_sortOf_13 rfl (lv_at hl 2 rfl) ?_
    refine vp_callSi (va_Run.run (va_runV (As := [.int (nI k), .long x1]) (rest := []) ⟨hx, hb, hml, hown, hts⟩ (c_X7_zero l o r k h_k x1) (cwV 2 hts (gV iX7_zero (zin__r7 (.methodLink RX7 102 yX7_zero) (List.mem_of_getElem? (i := 21) rfl))) rfl rfl rfl (by decide +kernel) ⟨Nat.le_of_ble_eq_true rfl, Nat.le_of_ble_eq_true rfl⟩) ⟨fun a U g mk q => ⟨q.1, mU_bl q.2⟩, (mU_rv hm), fun U hU hW => ⟨rfl, mU_mv hm hU hW⟩⟩ rfl rfl hl.1 rfl (lv_room (Nat.le_of_ble_eq_true rfl)) dX7_sortOf_14 ⟨Nat.zero_le _, Nat.zero_le _⟩)) (fun r_14 hr_14 => ?_)
    subst hr_14
    refine W_cut (α := Int32) (pcJ := 38) (nL := 4) (fun v => f_X7_sortOf k x1 = (f_X7_sortOf_1 k x1 v)) (fun v => [.int v]) (fun v => [(0, .ref o), (1, .int (nI k)), (2, .long x1)]) (fun w_1 ls hf hl => ?_) (fun K_38 => ?_)
    · have hf : f_X7_sortOf k x1 = (f_X7_sortOf_1 k x1 w_1) := hf
      have hl : lv_has ls 4 [(0, .ref o), (1, .int (nI k)), (2, .long x1)] := hl
      refine lv_aload_n hx hb dX7_sortOf_38 rfl (lv_at hl 0 rfl) ?_
      refine lv_iload_n hx hb dX7_sortOf_39 rfl (lv_at hl 1 rfl) ?_
      refine lv_lload_n hx hb dX7_sortOf_40 rfl (lv_at hl 2 rfl) ?_
      refine vp_callSi (va_Run.run (va_runV (As := [.int (nI k), .long x1]) (rest := [.int w_1]) ⟨hx, hb, hml, hown, hts⟩ (c_X7_minus l o r k h_k x1) (cwV 2 hts (gV iX7_minus (zin__r8 (.methodLink RX7 108 yX7_minus) (List.mem_of_getElem? (i := 5) rfl))) rfl rfl rfl (by decide +kernel) ⟨Nat.le_of_ble_eq_true rfl, Nat.le_of_ble_eq_true rfl⟩) ⟨fun a U g mk q => ⟨q.1, mU_bl q.2⟩, (mU_rv hm), fun U hU hW => ⟨rfl, mU_mv hm hU hW⟩⟩ rfl rfl hl.1 rfl (lv_room (Nat.le_of_ble_eq_true rfl)) dX7_sortOf_41 ⟨Nat.zero_le _, Nat.zero_le _⟩)) (fun r_41 hr_41 => ?_)
      subst hr_41
      refine lv_if_eq (tgt := 51) hx hb dX7_sortOf_44 (by decide) (fun c_44 => ?_) (fun c_44 => ?_)
      · have hf : f_X7_sortOf k x1 = (w_1 + (0 : Int32)) := hf.trans (if_pos c_44)
        refine lv_iconst (v := 0) hx hb dX7_sortOf_51 (by decide) ?_
        refine lv_iadd hx hb dX7_sortOf_52 ?_
        exact W.iret hx hb hr (fun t ht hW => ⟨_, rfl, hf.symm, ht⟩) (fun q hq => absurd hq List.not_mem_nil) dX7_sortOf_53
      · have hf : f_X7_sortOf k x1 = (w_1 + (4 : Int32)) := hf.trans (if_neg c_44)
        refine lv_iconst (v := 4) hx hb dX7_sortOf_47 (by decide) ?_
        refine lv_goto (tgt := 52) hx hb dX7_sortOf_48 (by decide) ?_
        refine lv_iadd hx hb dX7_sortOf_52 ?_
        exact W.iret hx hb hr (fun t ht hW => ⟨_, rfl, hf.symm, ht⟩) (fun q hq => absurd hq List.not_mem_nil) dX7_sortOf_53
    refine lv_if_eq (tgt := 24) hx hb dX7_sortOf_17 (by decide) (fun c_17 => ?_) (fun c_17 => ?_)
    · have hf : f_X7_sortOf k x1 = (f_X7_sortOf_2 k x1) := hf.trans (if_pos c_17)
      refine lv_aload_n hx hb dX7_sortOf_24 rfl (lv_at hl 0 rfl) ?_
      refine lv_iload_n hx hb dX7_sortOf_25 rfl (lv_at hl 1 rfl) ?_
      refine lv_lload_n hx hb dX7_sortOf_26 rfl (lv_at hl 2 rfl) ?_
      refine vp_callSi (va_Run.run (va_runV (As := [.int (nI k), .long x1]) (rest := []) ⟨hx, hb, hml, hown, hts⟩ (c_X7_infinite l o r k h_k x1) (cwV 2 hts (gV iX7_infinite (zin__r8 (.methodLink RX7 105 yX7_infinite) (List.mem_of_getElem? (i := 1) rfl))) rfl rfl rfl (by decide +kernel) ⟨Nat.le_of_ble_eq_true rfl, Nat.le_of_ble_eq_true rfl⟩) ⟨fun a U g mk q => ⟨q.1, mU_bl q.2⟩, (mU_rv hm), fun U hU hW => ⟨rfl, mU_mv hm hU hW⟩⟩ rfl rfl hl.1 rfl (lv_room (Nat.le_of_ble_eq_true rfl)) dX7_sortOf_27 ⟨Nat.zero_le _, Nat.zero_le _⟩)) (fun r_27 hr_27 => ?_)
      subst hr_27
      refine lv_if_eq (tgt := 37) hx hb dX7_sortOf_30 (by decide) (fun c_30 => ?_) (fun c_30 => ?_)
      · have hf : f_X7_sortOf k x1 = (f_X7_sortOf_1 k x1 (1 : Int32)) := hf.trans (if_pos c_30)
        refine lv_iconst (v := 1) hx hb dX7_sortOf_37 (by decide) ?_
        exact K_38 (1 : Int32) ls hf (lv_sub hl [0, 1, 2] rfl)
      · have hf : f_X7_sortOf k x1 = (f_X7_sortOf_1 k x1 (2 : Int32)) := hf.trans (if_neg c_30)
        refine lv_iconst (v := 2) hx hb dX7_sortOf_33 (by decide) ?_
        refine lv_goto (tgt := 38) hx hb dX7_sortOf_34 (by decide) ?_
        exact K_38 (2 : Int32) ls hf (lv_sub hl [0, 1, 2] rfl)
    · have hf : f_X7_sortOf k x1 = (f_X7_sortOf_1 k x1 (0 : Int32)) := hf.trans (if_neg c_17)
      refine lv_iconst (v := 0) hx hb dX7_sortOf_20 (by decide) ?_
      refine lv_goto (tgt := 38) hx hb dX7_sortOf_21 (by decide) ?_
      exact K_38 (0 : Int32) ls hf (lv_sub hl [0, 1, 2] rfl)
  · have hf : f_X7_sortOf k x1 = (3 : Int32) := hf.trans (if_neg c_6)
    refine lv_iconst (v := 3) hx hb dX7_sortOf_9 (by decide) ?_
    exact W.iret hx hb hr (fun t ht hW => ⟨_, rfl, hf.symm, ht⟩) (fun q hq => absurd hq List.not_mem_nil) dX7_sortOf_10
def f_X7_rank_1 (k : Nat) (x1 : Int64) : Int64 := if (f_X7_minus k x1) = 0 then (f_X7_unsigned k x1) else (-(f_X7_unsigned k x1))
def f_X7_rank (k : Nat) (x1 : Int64) : Int64 := (f_X7_rank_1 k x1)
def zX7_rank : List Cond := .code yX7_rank cX7_rank 4 (some .long) :: zall
theorem iX7_rank : MWv RX7 yX7_rank (.code yX7_rank cX7_rank 4 (some .long)) := ⟨(zin__r14 (.instanceMethod yX7_rank) (List.mem_of_getElem? (i := 12) rfl)), (zin__r14 (.selects RX7 yX7_rank yX7_rank) (List.mem_of_getElem? (i := 13) rfl)), (zin__r1 (.initialized RX7) (List.mem_of_getElem? (i := 5) rfl)), (zin__r14 (.code yX7_rank cX7_rank 4 (some .long)) (List.mem_of_getElem? (i := 14) rfl))⟩
set_option maxHeartbeats 4000000 in
set_option maxRecDepth 100000 in
theorem c_X7_rank (l : Launch) (o : Nat) (r : Nat → Nat) (k : Nat) (h_k : k < 2) (x1 : Int64) : Met l yX7_rank zX7_rank ({ frames := 1, cells := 0, slots := 0, locals := 23 }) (va_Pc [.ref o, .int (nI k), .long x1] (fun U => mU o r U)) (vp_Sl (fun r => r = f_X7_rank k x1)) 0 0 (fun _ => False) := by
  refine Met.ofW (cc := cX7_rank) (maxL := 4) (ret := (some .long)) (by decide) rfl ?_
  intro p e s m args below meth c s₁ B hml hv
  obtain ⟨rfl, hm⟩ := hv
  have hx := B.exec
  have hb := B.bytes
  have hr := B.returns
  have hts : ∀ w ∈ zall, w.before _ s = true := fun w h => atoms_spec (ws := zX7_rank) B.pre w (List.mem_cons_of_mem _ h)
  have hown : s.vm.findClass RX7 = some m.cls := findClass_of_methodNamed B.named
  have hlocks := B.notSynchronized
  have hl := lv_entry ([.ref o, .int (nI k), .long x1]) (n := 4) (Nat.le_of_ble_eq_true rfl)
  rw [lg_entry_eq]
  generalize (lg_sl ([.ref o, .int (nI k), .long x1]) ++ List.replicate (4 - (lg_sl ([.ref o, .int (nI k), .long x1])).length) Slot.unset).toArray = ls at hl ⊢
  have hl : lv_has ls 4 [(0, .ref o), (1, .int (nI k)), (2, .long x1)] := hl
  have hf : f_X7_rank k x1 = (f_X7_rank_1 k x1) := rfl
  refine lv_aload_n hx hb dX7_rank_0 rfl (lv_at hl 0 rfl) ?_
  refine lv_iload_n hx hb dX7_rank_1 rfl (lv_at hl 1 rfl) ?_
  refine lv_lload_n hx hb dX7_rank_2 rfl (lv_at hl 2 rfl) ?_
  refine vp_callSi (va_Run.run (va_runV (As := [.int (nI k), .long x1]) (rest := []) ⟨hx, hb, hml, hown, hts⟩ (c_X7_minus l o r k h_k x1) (cwV 2 hts (gV iX7_minus (zin__r8 (.methodLink RX7 108 yX7_minus) (List.mem_of_getElem? (i := 5) rfl))) rfl rfl rfl (by decide +kernel) ⟨Nat.le_of_ble_eq_true rfl, Nat.le_of_ble_eq_true rfl⟩) ⟨fun a U g mk q => ⟨q.1, mU_bl q.2⟩, (mU_rv hm), fun U hU hW => ⟨rfl, mU_mv hm hU hW⟩⟩ rfl rfl hl.1 rfl (lv_room (Nat.le_of_ble_eq_true rfl)) dX7_rank_3 ⟨Nat.zero_le _, Nat.zero_le _⟩)) (fun r_3 hr_3 => ?_)
  subst hr_3
  refine lv_if_eq (tgt := 19) hx hb dX7_rank_6 (by decide) (fun c_6 => ?_) (fun c_6 => ?_)
  · have hf : f_X7_rank k x1 = (f_X7_unsigned k x1) := hf.trans (if_pos c_6)
    refine lv_aload_n hx hb dX7_rank_19 rfl (lv_at hl 0 rfl) ?_
    refine lv_iload_n hx hb dX7_rank_20 rfl (lv_at hl 1 rfl) ?_
    refine lv_lload_n hx hb dX7_rank_21 rfl (lv_at hl 2 rfl) ?_
    refine vp_callSl (va_Run.run (va_runV (As := [.int (nI k), .long x1]) (rest := []) ⟨hx, hb, hml, hown, hts⟩ (c_X7_unsigned l o r k h_k x1) (cwV 2 hts (gV iX7_unsigned (zin__r7 (.methodLink RX7 94 yX7_unsigned) (List.mem_of_getElem? (i := 4) rfl))) rfl rfl rfl (by decide +kernel) ⟨Nat.le_of_ble_eq_true rfl, Nat.le_of_ble_eq_true rfl⟩) ⟨fun a U g mk q => ⟨q.1, mU_bl q.2⟩, (mU_rv hm), fun U hU hW => ⟨rfl, mU_mv hm hU hW⟩⟩ rfl rfl hl.1 rfl (lv_room (Nat.le_of_ble_eq_true rfl)) dX7_rank_22 ⟨Nat.zero_le _, Nat.zero_le _⟩)) (fun r_22 hr_22 => ?_)
    subst hr_22
    exact W.lret hx hb hr (fun t ht hW => ⟨_, rfl, hf.symm, ht⟩) (fun q hq => absurd hq List.not_mem_nil) dX7_rank_25
  · have hf : f_X7_rank k x1 = (-(f_X7_unsigned k x1)) := hf.trans (if_neg c_6)
    refine lv_aload_n hx hb dX7_rank_9 rfl (lv_at hl 0 rfl) ?_
    refine lv_iload_n hx hb dX7_rank_10 rfl (lv_at hl 1 rfl) ?_
    refine lv_lload_n hx hb dX7_rank_11 rfl (lv_at hl 2 rfl) ?_
    refine vp_callSl (va_Run.run (va_runV (As := [.int (nI k), .long x1]) (rest := []) ⟨hx, hb, hml, hown, hts⟩ (c_X7_unsigned l o r k h_k x1) (cwV 2 hts (gV iX7_unsigned (zin__r7 (.methodLink RX7 94 yX7_unsigned) (List.mem_of_getElem? (i := 4) rfl))) rfl rfl rfl (by decide +kernel) ⟨Nat.le_of_ble_eq_true rfl, Nat.le_of_ble_eq_true rfl⟩) ⟨fun a U g mk q => ⟨q.1, mU_bl q.2⟩, (mU_rv hm), fun U hU hW => ⟨rfl, mU_mv hm hU hW⟩⟩ rfl rfl hl.1 rfl (lv_room (Nat.le_of_ble_eq_true rfl)) dX7_rank_12 ⟨Nat.zero_le _, Nat.zero_le _⟩)) (fun r_12 hr_12 => ?_)
    subst hr_12
    refine lv_lneg hx hb dX7_rank_15 ?_
    refine lv_goto (tgt := 25) hx hb dX7_rank_16 (by decide) ?_
    exact W.lret hx hb hr (fun t ht hW => ⟨_, rfl, hf.symm, ht⟩) (fun q hq => absurd hq List.not_mem_nil) dX7_rank_25
def f_X7_signed_1 (k : Nat) (x1 : Int64) (x2 : Int32) : Int64 := if x2 = 0 then (x1 &&& ((ksgn k) ^^^ (-1 : Int64))) else (x1 ||| (ksgn k))
def f_X7_signed (k : Nat) (x1 : Int64) (x2 : Int32) : Int64 := (f_X7_signed_1 k x1 x2)
def zX7_signed : List Cond := .code yX7_signed cX7_signed 5 (some .long) :: zall
theorem iX7_signed : MWv RX7 yX7_signed (.code yX7_signed cX7_signed 5 (some .long)) := ⟨(zin__r10 (.instanceMethod yX7_signed) (List.mem_of_getElem? (i := 6) rfl)), (zin__r10 (.selects RX7 yX7_signed yX7_signed) (List.mem_of_getElem? (i := 7) rfl)), (zin__r1 (.initialized RX7) (List.mem_of_getElem? (i := 5) rfl)), (zin__r10 (.code yX7_signed cX7_signed 5 (some .long)) (List.mem_of_getElem? (i := 8) rfl))⟩
set_option maxHeartbeats 4000000 in
set_option maxRecDepth 100000 in
theorem c_X7_signed (l : Launch) (o : Nat) (r : Nat → Nat) (k : Nat) (h_k : k < 2) (x1 : Int64) (x2 : Int32) : Met l yX7_signed zX7_signed ({ frames := 0, cells := 0, slots := 0, locals := 0 }) (va_Pc [.ref o, .int (nI k), .long x1, .int x2] (fun U => mU o r U)) (vp_Sl (fun r => r = f_X7_signed k x1 x2)) 0 0 (fun _ => False) := by
  refine Met.ofW (cc := cX7_signed) (maxL := 5) (ret := (some .long)) (by decide) rfl ?_
  intro p e s m args below meth c s₁ B hml hv
  obtain ⟨rfl, hm⟩ := hv
  have hx := B.exec
  have hb := B.bytes
  have hr := B.returns
  have hts : ∀ w ∈ zall, w.before _ s = true := fun w h => atoms_spec (ws := zX7_signed) B.pre w (List.mem_cons_of_mem _ h)
  have hown : s.vm.findClass RX7 = some m.cls := findClass_of_methodNamed B.named
  have hlocks := B.notSynchronized
  have hl := lv_entry ([.ref o, .int (nI k), .long x1, .int x2]) (n := 5) (Nat.le_of_ble_eq_true rfl)
  rw [lg_entry_eq]
  generalize (lg_sl ([.ref o, .int (nI k), .long x1, .int x2]) ++ List.replicate (5 - (lg_sl ([.ref o, .int (nI k), .long x1, .int x2])).length) Slot.unset).toArray = ls at hl ⊢
  have hl : lv_has ls 5 [(0, .ref o), (1, .int (nI k)), (2, .long x1), (4, .int x2)] := hl
  have hf : f_X7_signed k x1 x2 = (f_X7_signed_1 k x1 x2) := rfl
  refine lv_iload hx hb dX7_signed_0 (lv_at hl 3 rfl) ?_
  refine lv_if_eq (tgt := 16) hx hb dX7_signed_2 (by decide) (fun c_2 => ?_) (fun c_2 => ?_)
  · have hf : f_X7_signed k x1 x2 = (x1 &&& ((ksgn k) ^^^ (-1 : Int64))) := hf.trans (if_pos c_2)
    refine lv_lload_n hx hb dX7_signed_16 rfl (lv_at hl 2 rfl) ?_
    refine lv_aload_n hx hb dX7_signed_17 rfl (lv_at hl 0 rfl) ?_
    refine vk_getf hx hb (mE_SIGN hm) va_S.rf hown (hts _ (zin__r2 (.fieldLink RX7 23 "ReckonBenchModel" "SIGN" "[J") (List.mem_of_getElem? (i := 15) rfl))) (fun _ h9 => h9) dX7_signed_18 ?_
    refine lv_iload_n hx hb dX7_signed_21 rfl (lv_at hl 1 rfl) ?_
    refine va_tl hx hb (mT_SIGN hm) va_S.rf (kin h_k) (v := .long (ksgn k)) (kev (fun j => Value.long (ksgn j)) h_k) dX7_signed_22 ?_
    refine lv_ldc2 (v := -1) hx hb hown (hts _ (zin__r7 (.constantLong RX7 90 (-1)) (List.mem_of_getElem? (i := 8) rfl))) dX7_signed_23 ?_
    refine lv_lxor hx hb dX7_signed_26 ?_
    refine lv_land hx hb dX7_signed_27 ?_
    exact W.lret hx hb hr (fun t ht hW => ⟨_, rfl, hf.symm, ht⟩) (fun q hq => absurd hq List.not_mem_nil) dX7_signed_28
  · have hf : f_X7_signed k x1 x2 = (x1 ||| (ksgn k)) := hf.trans (if_neg c_2)
    refine lv_lload_n hx hb dX7_signed_5 rfl (lv_at hl 2 rfl) ?_
    refine lv_aload_n hx hb dX7_signed_6 rfl (lv_at hl 0 rfl) ?_
    refine vk_getf hx hb (mE_SIGN hm) va_S.rf hown (hts _ (zin__r2 (.fieldLink RX7 23 "ReckonBenchModel" "SIGN" "[J") (List.mem_of_getElem? (i := 15) rfl))) (fun _ h9 => h9) dX7_signed_7 ?_
    refine lv_iload_n hx hb dX7_signed_10 rfl (lv_at hl 1 rfl) ?_
    refine va_tl hx hb (mT_SIGN hm) va_S.rf (kin h_k) (v := .long (ksgn k)) (kev (fun j => Value.long (ksgn j)) h_k) dX7_signed_11 ?_
    refine lv_lor hx hb dX7_signed_12 ?_
    refine lv_goto (tgt := 28) hx hb dX7_signed_13 (by decide) ?_
    exact W.lret hx hb hr (fun t ht hW => ⟨_, rfl, hf.symm, ht⟩) (fun q hq => absurd hq List.not_mem_nil) dX7_signed_28
def f_X7_turned_1 (k : Nat) (x1 : Int64) : Int64 := if (f_X7_none k x1) = 0 then (x1 ^^^ (ksgn k)) else x1
def f_X7_turned (k : Nat) (x1 : Int64) : Int64 := (f_X7_turned_1 k x1)
def zX7_turned : List Cond := .code yX7_turned cX7_turned 4 (some .long) :: zall
theorem iX7_turned : MWv RX7 yX7_turned (.code yX7_turned cX7_turned 4 (some .long)) := ⟨(zin__r21 (.instanceMethod yX7_turned) (List.mem_of_getElem? (i := 11) rfl)), (zin__r21 (.selects RX7 yX7_turned yX7_turned) (List.mem_of_getElem? (i := 12) rfl)), (zin__r1 (.initialized RX7) (List.mem_of_getElem? (i := 5) rfl)), (zin__r21 (.code yX7_turned cX7_turned 4 (some .long)) (List.mem_of_getElem? (i := 13) rfl))⟩
set_option maxHeartbeats 4000000 in
set_option maxRecDepth 100000 in
theorem c_X7_turned (l : Launch) (o : Nat) (r : Nat → Nat) (k : Nat) (h_k : k < 2) (x1 : Int64) : Met l yX7_turned zX7_turned ({ frames := 1, cells := 0, slots := 0, locals := 23 }) (va_Pc [.ref o, .int (nI k), .long x1] (fun U => mU o r U)) (vp_Sl (fun r => r = f_X7_turned k x1)) 0 0 (fun _ => False) := by
  refine Met.ofW (cc := cX7_turned) (maxL := 4) (ret := (some .long)) (by decide) rfl ?_
  intro p e s m args below meth c s₁ B hml hv
  obtain ⟨rfl, hm⟩ := hv
  have hx := B.exec
  have hb := B.bytes
  have hr := B.returns
  have hts : ∀ w ∈ zall, w.before _ s = true := fun w h => atoms_spec (ws := zX7_turned) B.pre w (List.mem_cons_of_mem _ h)
  have hown : s.vm.findClass RX7 = some m.cls := findClass_of_methodNamed B.named
  have hlocks := B.notSynchronized
  have hl := lv_entry ([.ref o, .int (nI k), .long x1]) (n := 4) (Nat.le_of_ble_eq_true rfl)
  rw [lg_entry_eq]
  generalize (lg_sl ([.ref o, .int (nI k), .long x1]) ++ List.replicate (4 - (lg_sl ([.ref o, .int (nI k), .long x1])).length) Slot.unset).toArray = ls at hl ⊢
  have hl : lv_has ls 4 [(0, .ref o), (1, .int (nI k)), (2, .long x1)] := hl
  have hf : f_X7_turned k x1 = (f_X7_turned_1 k x1) := rfl
  refine lv_aload_n hx hb dX7_turned_0 rfl (lv_at hl 0 rfl) ?_
  refine lv_iload_n hx hb dX7_turned_1 rfl (lv_at hl 1 rfl) ?_
  refine lv_lload_n hx hb dX7_turned_2 rfl (lv_at hl 2 rfl) ?_
  refine vp_callSi (va_Run.run (va_runV (As := [.int (nI k), .long x1]) (rest := []) ⟨hx, hb, hml, hown, hts⟩ (c_X7_none l o r k h_k x1) (cwV 2 hts (gV iX7_none (zin__r7 (.methodLink RX7 98 yX7_none) (List.mem_of_getElem? (i := 17) rfl))) rfl rfl rfl (by decide +kernel) ⟨Nat.le_of_ble_eq_true rfl, Nat.le_of_ble_eq_true rfl⟩) ⟨fun a U g mk q => ⟨q.1, mU_bl q.2⟩, (mU_rv hm), fun U hU hW => ⟨rfl, mU_mv hm hU hW⟩⟩ rfl rfl hl.1 rfl (lv_room (Nat.le_of_ble_eq_true rfl)) dX7_turned_3 ⟨Nat.zero_le _, Nat.zero_le _⟩)) (fun r_3 hr_3 => ?_)
  subst hr_3
  refine lv_if_eq (tgt := 13) hx hb dX7_turned_6 (by decide) (fun c_6 => ?_) (fun c_6 => ?_)
  · have hf : f_X7_turned k x1 = (x1 ^^^ (ksgn k)) := hf.trans (if_pos c_6)
    refine lv_lload_n hx hb dX7_turned_13 rfl (lv_at hl 2 rfl) ?_
    refine lv_aload_n hx hb dX7_turned_14 rfl (lv_at hl 0 rfl) ?_
    refine vk_getf hx hb (mE_SIGN hm) va_S.rf hown (hts _ (zin__r2 (.fieldLink RX7 23 "ReckonBenchModel" "SIGN" "[J") (List.mem_of_getElem? (i := 15) rfl))) (fun _ h9 => h9) dX7_turned_15 ?_
    refine lv_iload_n hx hb dX7_turned_18 rfl (lv_at hl 1 rfl) ?_
    refine va_tl hx hb (mT_SIGN hm) va_S.rf (kin h_k) (v := .long (ksgn k)) (kev (fun j => Value.long (ksgn j)) h_k) dX7_turned_19 ?_
    refine lv_lxor hx hb dX7_turned_20 ?_
    exact W.lret hx hb hr (fun t ht hW => ⟨_, rfl, hf.symm, ht⟩) (fun q hq => absurd hq List.not_mem_nil) dX7_turned_21
  · have hf : f_X7_turned k x1 = x1 := hf.trans (if_neg c_6)
    refine lv_lload_n hx hb dX7_turned_9 rfl (lv_at hl 2 rfl) ?_
    refine lv_goto (tgt := 21) hx hb dX7_turned_10 (by decide) ?_
    exact W.lret hx hb hr (fun t ht hW => ⟨_, rfl, hf.symm, ht⟩) (fun q hq => absurd hq List.not_mem_nil) dX7_turned_21
def f_X7_lesser_1 (k : Nat) : Int64 := (knan k)
def f_X7_lesser_2 (k : Nat) (x1 : Int64) (x2 : Int64) : Int64 := if (f_X7_rank k x2) ≤ (f_X7_rank k x1) then x2 else x1
def f_X7_lesser_3 (k : Nat) (x1 : Int64) (x2 : Int64) : Int64 := if (f_X7_rank k x1) = (f_X7_rank k x2) then (x1 ||| x2) else (f_X7_lesser_2 k x1 x2)
def f_X7_lesser_4 (k : Nat) (x1 : Int64) (x2 : Int64) : Int64 := if (f_X7_none k x2) = 0 then (f_X7_lesser_3 k x1 x2) else (f_X7_lesser_1 k)
def f_X7_lesser_5 (k : Nat) (x1 : Int64) (x2 : Int64) : Int64 := if (f_X7_none k x1) = 0 then (f_X7_lesser_4 k x1 x2) else (f_X7_lesser_1 k)
def f_X7_lesser (k : Nat) (x1 : Int64) (x2 : Int64) : Int64 := (f_X7_lesser_5 k x1 x2)
def zX7_lesser : List Cond := .code yX7_lesser cX7_lesser 6 (some .long) :: zall
theorem iX7_lesser : MWv RX7 yX7_lesser (.code yX7_lesser cX7_lesser 6 (some .long)) := ⟨(zin__r20 (.instanceMethod yX7_lesser) (List.mem_of_getElem? (i := 19) rfl)), (zin__r20 (.selects RX7 yX7_lesser yX7_lesser) (List.mem_of_getElem? (i := 20) rfl)), (zin__r1 (.initialized RX7) (List.mem_of_getElem? (i := 5) rfl)), (zin__r20 (.code yX7_lesser cX7_lesser 6 (some .long)) (List.mem_of_getElem? (i := 21) rfl))⟩
set_option maxHeartbeats 4000000 in
set_option maxRecDepth 100000 in
theorem c_X7_lesser (l : Launch) (o : Nat) (r : Nat → Nat) (k : Nat) (h_k : k < 2) (x1 : Int64) (x2 : Int64) : Met l yX7_lesser zX7_lesser ({ frames := 2, cells := 0, slots := 0, locals := 46 }) (va_Pc [.ref o, .int (nI k), .long x1, .long x2] (fun U => mU o r U)) (vp_Sl (fun r => r = f_X7_lesser k x1 x2)) 0 0 (fun _ => False) := by
  refine Met.ofW (cc := cX7_lesser) (maxL := 6) (ret := (some .long)) (by decide) rfl ?_
  intro p e s m args below meth c s₁ B hml hv
  obtain ⟨rfl, hm⟩ := hv
  have hx := B.exec
  have hb := B.bytes
  have hr := B.returns
  have hts : ∀ w ∈ zall, w.before _ s = true := fun w h => atoms_spec (ws := zX7_lesser) B.pre w (List.mem_cons_of_mem _ h)
  have hown : s.vm.findClass RX7 = some m.cls := findClass_of_methodNamed B.named
  have hlocks := B.notSynchronized
  have hl := lv_entry ([.ref o, .int (nI k), .long x1, .long x2]) (n := 6) (Nat.le_of_ble_eq_true rfl)
  rw [lg_entry_eq]
  generalize (lg_sl ([.ref o, .int (nI k), .long x1, .long x2]) ++ List.replicate (6 - (lg_sl ([.ref o, .int (nI k), .long x1, .long x2])).length) Slot.unset).toArray = ls at hl ⊢
  have hl : lv_has ls 6 [(0, .ref o), (1, .int (nI k)), (2, .long x1), (4, .long x2)] := hl
  have hf : f_X7_lesser k x1 x2 = (f_X7_lesser_5 k x1 x2) := rfl
  refine lv_aload_n hx hb dX7_lesser_0 rfl (lv_at hl 0 rfl) ?_
  refine lv_iload_n hx hb dX7_lesser_1 rfl (lv_at hl 1 rfl) ?_
  refine lv_lload_n hx hb dX7_lesser_2 rfl (lv_at hl 2 rfl) ?_
  refine vp_callSi (va_Run.run (va_runV (As := [.int (nI k), .long x1]) (rest := []) ⟨hx, hb, hml, hown, hts⟩ (c_X7_none l o r k h_k x1) (cwV 2 hts (gV iX7_none (zin__r7 (.methodLink RX7 98 yX7_none) (List.mem_of_getElem? (i := 17) rfl))) rfl rfl rfl (by decide +kernel) ⟨Nat.le_of_ble_eq_true rfl, Nat.le_of_ble_eq_true rfl⟩) ⟨fun a U g mk q => ⟨q.1, mU_bl q.2⟩, (mU_rv hm), fun U hU hW => ⟨rfl, mU_mv hm hU hW⟩⟩ rfl rfl hl.1 rfl (lv_room (Nat.le_of_ble_eq_true rfl)) dX7_lesser_3 ⟨Nat.zero_le _, Nat.zero_le _⟩)) (fun r_3 hr_3 => ?_)
  subst hr_3
  refine W_cut (α := Unit) (pcJ := 19) (nL := 6) (fun v => f_X7_lesser k x1 x2 = (f_X7_lesser_1 k)) (fun v => []) (fun v => [(0, .ref o), (1, .int (nI k))]) (fun v ls hf hl => ?_) (fun K_19 => ?_)
  · have hf : f_X7_lesser k x1 x2 = (knan k) := hf
    have hl : lv_has ls 6 [(0, .ref o), (1, .int (nI k))] := hl
    refine lv_aload_n hx hb dX7_lesser_19 rfl (lv_at hl 0 rfl) ?_
    refine vk_getf hx hb (mE_NONE hm) va_S.rf hown (hts _ (zin__r2 (.fieldLink RX7 38 "ReckonBenchModel" "NONE" "[J") (List.mem_of_getElem? (i := 21) rfl))) (fun _ h9 => h9) dX7_lesser_20 ?_
    refine lv_iload_n hx hb dX7_lesser_23 rfl (lv_at hl 1 rfl) ?_
    refine va_tl hx hb (mT_NONE hm) va_S.rf (kin h_k) (v := .long (knan k)) (kev (fun j => Value.long (knan j)) h_k) dX7_lesser_24 ?_
    exact W.lret hx hb hr (fun t ht hW => ⟨_, rfl, hf.symm, ht⟩) (fun q hq => absurd hq List.not_mem_nil) dX7_lesser_25
  refine lv_if_ne (tgt := 19) hx hb dX7_lesser_6 (by decide) (fun c_6 => ?_) (fun c_6 => ?_)
  · have hf : f_X7_lesser k x1 x2 = (f_X7_lesser_1 k) := hf.trans (if_neg c_6)
    exact K_19 () ls hf (lv_sub hl [0, 1] rfl)
  · have hf : f_X7_lesser k x1 x2 = (f_X7_lesser_4 k x1 x2) := hf.trans (if_pos c_6)
    refine lv_aload_n hx hb dX7_lesser_9 rfl (lv_at hl 0 rfl) ?_
    refine lv_iload_n hx hb dX7_lesser_10 rfl (lv_at hl 1 rfl) ?_
    refine lv_lload hx hb dX7_lesser_11 (lv_at hl 3 rfl) ?_
    refine vp_callSi (va_Run.run (va_runV (As := [.int (nI k), .long x2]) (rest := []) ⟨hx, hb, hml, hown, hts⟩ (c_X7_none l o r k h_k x2) (cwV 2 hts (gV iX7_none (zin__r7 (.methodLink RX7 98 yX7_none) (List.mem_of_getElem? (i := 17) rfl))) rfl rfl rfl (by decide +kernel) ⟨Nat.le_of_ble_eq_true rfl, Nat.le_of_ble_eq_true rfl⟩) ⟨fun a U g mk q => ⟨q.1, mU_bl q.2⟩, (mU_rv hm), fun U hU hW => ⟨rfl, mU_mv hm hU hW⟩⟩ rfl rfl hl.1 rfl (lv_room (Nat.le_of_ble_eq_true rfl)) dX7_lesser_13 ⟨Nat.zero_le _, Nat.zero_le _⟩)) (fun r_13 hr_13 => ?_)
    subst hr_13
    refine lv_if_eq (tgt := 26) hx hb dX7_lesser_16 (by decide) (fun c_16 => ?_) (fun c_16 => ?_)
    · have hf : f_X7_lesser k x1 x2 = (f_X7_lesser_3 k x1 x2) := hf.trans (if_pos c_16)
      refine lv_aload_n hx hb dX7_lesser_26 rfl (lv_at hl 0 rfl) ?_
      refine lv_iload_n hx hb dX7_lesser_27 rfl (lv_at hl 1 rfl) ?_
      refine lv_lload_n hx hb dX7_lesser_28 rfl (lv_at hl 2 rfl) ?_
      refine vp_callSl (va_Run.run (va_runV (As := [.int (nI k), .long x1]) (rest := []) ⟨hx, hb, hml, hown, hts⟩ (c_X7_rank l o r k h_k x1) (cwV 2 hts (gV iX7_rank (zin__r14 (.methodLink RX7 133 yX7_rank) (List.mem_of_getElem? (i := 11) rfl))) rfl rfl rfl (by decide +kernel) ⟨Nat.le_of_ble_eq_true rfl, Nat.le_of_ble_eq_true rfl⟩) ⟨fun a U g mk q => ⟨q.1, mU_bl q.2⟩, (mU_rv hm), fun U hU hW => ⟨rfl, mU_mv hm hU hW⟩⟩ rfl rfl hl.1 rfl (lv_room (Nat.le_of_ble_eq_true rfl)) dX7_lesser_29 ⟨Nat.zero_le _, Nat.zero_le _⟩)) (fun r_29 hr_29 => ?_)
      subst hr_29
      refine lv_aload_n hx hb dX7_lesser_32 rfl (lv_at hl 0 rfl) ?_
      refine lv_iload_n hx hb dX7_lesser_33 rfl (lv_at hl 1 rfl) ?_
      refine lv_lload hx hb dX7_lesser_34 (lv_at hl 3 rfl) ?_
      refine vp_callSl (va_Run.run (va_runV (As := [.int (nI k), .long x2]) (rest := [.long (f_X7_rank k x1)]) ⟨hx, hb, hml, hown, hts⟩ (c_X7_rank l o r k h_k x2) (cwV 2 hts (gV iX7_rank (zin__r14 (.methodLink RX7 133 yX7_rank) (List.mem_of_getElem? (i := 11) rfl))) rfl rfl rfl (by decide +kernel) ⟨Nat.le_of_ble_eq_true rfl, Nat.le_of_ble_eq_true rfl⟩) ⟨fun a U g mk q => ⟨q.1, mU_bl q.2⟩, (mU_rv hm), fun U hU hW => ⟨rfl, mU_mv hm hU hW⟩⟩ rfl rfl hl.1 rfl (lv_room (Nat.le_of_ble_eq_true rfl)) dX7_lesser_36 ⟨Nat.zero_le _, Nat.zero_le _⟩)) (fun r_36 hr_36 => ?_)
      subst hr_36
      refine W.lcmp hx hb dX7_lesser_39 ?_
      refine lv_if_ne (tgt := 48) hx hb dX7_lesser_40 (by decide) (fun c_40 => ?_) (fun c_40 => ?_)
      · have c_40 : ¬ ((f_X7_rank k x1) = (f_X7_rank k x2)) := fun h9 => c_40 ((lg_cmp_eq (f_X7_rank k x1) (f_X7_rank k x2)).mpr h9)
        have hf : f_X7_lesser k x1 x2 = (f_X7_lesser_2 k x1 x2) := hf.trans (if_neg c_40)
        refine lv_aload_n hx hb dX7_lesser_48 rfl (lv_at hl 0 rfl) ?_
        refine lv_iload_n hx hb dX7_lesser_49 rfl (lv_at hl 1 rfl) ?_
        refine lv_lload_n hx hb dX7_lesser_50 rfl (lv_at hl 2 rfl) ?_
        refine vp_callSl (va_Run.run (va_runV (As := [.int (nI k), .long x1]) (rest := []) ⟨hx, hb, hml, hown, hts⟩ (c_X7_rank l o r k h_k x1) (cwV 2 hts (gV iX7_rank (zin__r14 (.methodLink RX7 133 yX7_rank) (List.mem_of_getElem? (i := 11) rfl))) rfl rfl rfl (by decide +kernel) ⟨Nat.le_of_ble_eq_true rfl, Nat.le_of_ble_eq_true rfl⟩) ⟨fun a U g mk q => ⟨q.1, mU_bl q.2⟩, (mU_rv hm), fun U hU hW => ⟨rfl, mU_mv hm hU hW⟩⟩ rfl rfl hl.1 rfl (lv_room (Nat.le_of_ble_eq_true rfl)) dX7_lesser_51 ⟨Nat.zero_le _, Nat.zero_le _⟩)) (fun r_51 hr_51 => ?_)
        subst hr_51
        refine lv_aload_n hx hb dX7_lesser_54 rfl (lv_at hl 0 rfl) ?_
        refine lv_iload_n hx hb dX7_lesser_55 rfl (lv_at hl 1 rfl) ?_
        refine lv_lload hx hb dX7_lesser_56 (lv_at hl 3 rfl) ?_
        refine vp_callSl (va_Run.run (va_runV (As := [.int (nI k), .long x2]) (rest := [.long (f_X7_rank k x1)]) ⟨hx, hb, hml, hown, hts⟩ (c_X7_rank l o r k h_k x2) (cwV 2 hts (gV iX7_rank (zin__r14 (.methodLink RX7 133 yX7_rank) (List.mem_of_getElem? (i := 11) rfl))) rfl rfl rfl (by decide +kernel) ⟨Nat.le_of_ble_eq_true rfl, Nat.le_of_ble_eq_true rfl⟩) ⟨fun a U g mk q => ⟨q.1, mU_bl q.2⟩, (mU_rv hm), fun U hU hW => ⟨rfl, mU_mv hm hU hW⟩⟩ rfl rfl hl.1 rfl (lv_room (Nat.le_of_ble_eq_true rfl)) dX7_lesser_58 ⟨Nat.zero_le _, Nat.zero_le _⟩)) (fun r_58 hr_58 => ?_)
        subst hr_58
        refine W.lcmp hx hb dX7_lesser_61 ?_
        refine lv_if_ge (tgt := 69) hx hb dX7_lesser_62 (by decide) (fun c_62 => ?_) (fun c_62 => ?_)
        · have c_62 : (f_X7_rank k x2) ≤ (f_X7_rank k x1) := (lg_cmp_ge (f_X7_rank k x1) (f_X7_rank k x2)).mp c_62
          have hf : f_X7_lesser k x1 x2 = x2 := hf.trans (if_pos c_62)
          refine lv_lload hx hb dX7_lesser_69 (lv_at hl 3 rfl) ?_
          exact W.lret hx hb hr (fun t ht hW => ⟨_, rfl, hf.symm, ht⟩) (fun q hq => absurd hq List.not_mem_nil) dX7_lesser_71
        · have c_62 : ¬ ((f_X7_rank k x2) ≤ (f_X7_rank k x1)) := fun h9 => c_62 ((lg_cmp_ge (f_X7_rank k x1) (f_X7_rank k x2)).mpr h9)
          have hf : f_X7_lesser k x1 x2 = x1 := hf.trans (if_neg c_62)
          refine lv_lload_n hx hb dX7_lesser_65 rfl (lv_at hl 2 rfl) ?_
          refine lv_goto (tgt := 71) hx hb dX7_lesser_66 (by decide) ?_
          exact W.lret hx hb hr (fun t ht hW => ⟨_, rfl, hf.symm, ht⟩) (fun q hq => absurd hq List.not_mem_nil) dX7_lesser_71
      · have c_40 : (f_X7_rank k x1) = (f_X7_rank k x2) := (lg_cmp_eq (f_X7_rank k x1) (f_X7_rank k x2)).mp c_40
        have hf : f_X7_lesser k x1 x2 = (x1 ||| x2) := hf.trans (if_pos c_40)
        refine lv_lload_n hx hb dX7_lesser_43 rfl (lv_at hl 2 rfl) ?_
        refine lv_lload hx hb dX7_lesser_44 (lv_at hl 3 rfl) ?_
        refine lv_lor hx hb dX7_lesser_46 ?_
        exact W.lret hx hb hr (fun t ht hW => ⟨_, rfl, hf.symm, ht⟩) (fun q hq => absurd hq List.not_mem_nil) dX7_lesser_47
    · have hf : f_X7_lesser k x1 x2 = (f_X7_lesser_1 k) := hf.trans (if_neg c_16)
      exact K_19 () ls hf (lv_sub hl [0, 1] rfl)
def f_X7_greater_1 (k : Nat) : Int64 := (knan k)
def f_X7_greater_2 (k : Nat) (x1 : Int64) (x2 : Int64) : Int64 := if (f_X7_rank k x1) ≤ (f_X7_rank k x2) then x2 else x1
def f_X7_greater_3 (k : Nat) (x1 : Int64) (x2 : Int64) : Int64 := if (f_X7_rank k x1) = (f_X7_rank k x2) then (x1 &&& x2) else (f_X7_greater_2 k x1 x2)
def f_X7_greater_4 (k : Nat) (x1 : Int64) (x2 : Int64) : Int64 := if (f_X7_none k x2) = 0 then (f_X7_greater_3 k x1 x2) else (f_X7_greater_1 k)
def f_X7_greater_5 (k : Nat) (x1 : Int64) (x2 : Int64) : Int64 := if (f_X7_none k x1) = 0 then (f_X7_greater_4 k x1 x2) else (f_X7_greater_1 k)
def f_X7_greater (k : Nat) (x1 : Int64) (x2 : Int64) : Int64 := (f_X7_greater_5 k x1 x2)
def zX7_greater : List Cond := .code yX7_greater cX7_greater 6 (some .long) :: zall
theorem iX7_greater : MWv RX7 yX7_greater (.code yX7_greater cX7_greater 6 (some .long)) := ⟨(zin__r20 (.instanceMethod yX7_greater) (List.mem_of_getElem? (i := 15) rfl)), (zin__r20 (.selects RX7 yX7_greater yX7_greater) (List.mem_of_getElem? (i := 16) rfl)), (zin__r1 (.initialized RX7) (List.mem_of_getElem? (i := 5) rfl)), (zin__r20 (.code yX7_greater cX7_greater 6 (some .long)) (List.mem_of_getElem? (i := 17) rfl))⟩
set_option maxHeartbeats 4000000 in
set_option maxRecDepth 100000 in
theorem c_X7_greater (l : Launch) (o : Nat) (r : Nat → Nat) (k : Nat) (h_k : k < 2) (x1 : Int64) (x2 : Int64) : Met l yX7_greater zX7_greater ({ frames := 2, cells := 0, slots := 0, locals := 46 }) (va_Pc [.ref o, .int (nI k), .long x1, .long x2] (fun U => mU o r U)) (vp_Sl (fun r => r = f_X7_greater k x1 x2)) 0 0 (fun _ => False) := by
  refine Met.ofW (cc := cX7_greater) (maxL := 6) (ret := (some .long)) (by decide) rfl ?_
  intro p e s m args below meth c s₁ B hml hv
  obtain ⟨rfl, hm⟩ := hv
  have hx := B.exec
  have hb := B.bytes
  have hr := B.returns
  have hts : ∀ w ∈ zall, w.before _ s = true := fun w h => atoms_spec (ws := zX7_greater) B.pre w (List.mem_cons_of_mem _ h)
  have hown : s.vm.findClass RX7 = some m.cls := findClass_of_methodNamed B.named
  have hlocks := B.notSynchronized
  have hl := lv_entry ([.ref o, .int (nI k), .long x1, .long x2]) (n := 6) (Nat.le_of_ble_eq_true rfl)
  rw [lg_entry_eq]
  generalize (lg_sl ([.ref o, .int (nI k), .long x1, .long x2]) ++ List.replicate (6 - (lg_sl ([.ref o, .int (nI k), .long x1, .long x2])).length) Slot.unset).toArray = ls at hl ⊢
  have hl : lv_has ls 6 [(0, .ref o), (1, .int (nI k)), (2, .long x1), (4, .long x2)] := hl
  have hf : f_X7_greater k x1 x2 = (f_X7_greater_5 k x1 x2) := rfl
  refine lv_aload_n hx hb dX7_greater_0 rfl (lv_at hl 0 rfl) ?_
  refine lv_iload_n hx hb dX7_greater_1 rfl (lv_at hl 1 rfl) ?_
  refine lv_lload_n hx hb dX7_greater_2 rfl (lv_at hl 2 rfl) ?_
  refine vp_callSi (va_Run.run (va_runV (As := [.int (nI k), .long x1]) (rest := []) ⟨hx, hb, hml, hown, hts⟩ (c_X7_none l o r k h_k x1) (cwV 2 hts (gV iX7_none (zin__r7 (.methodLink RX7 98 yX7_none) (List.mem_of_getElem? (i := 17) rfl))) rfl rfl rfl (by decide +kernel) ⟨Nat.le_of_ble_eq_true rfl, Nat.le_of_ble_eq_true rfl⟩) ⟨fun a U g mk q => ⟨q.1, mU_bl q.2⟩, (mU_rv hm), fun U hU hW => ⟨rfl, mU_mv hm hU hW⟩⟩ rfl rfl hl.1 rfl (lv_room (Nat.le_of_ble_eq_true rfl)) dX7_greater_3 ⟨Nat.zero_le _, Nat.zero_le _⟩)) (fun r_3 hr_3 => ?_)
  subst hr_3
  refine W_cut (α := Unit) (pcJ := 19) (nL := 6) (fun v => f_X7_greater k x1 x2 = (f_X7_greater_1 k)) (fun v => []) (fun v => [(0, .ref o), (1, .int (nI k))]) (fun v ls hf hl => ?_) (fun K_19 => ?_)
  · have hf : f_X7_greater k x1 x2 = (knan k) := hf
    have hl : lv_has ls 6 [(0, .ref o), (1, .int (nI k))] := hl
    refine lv_aload_n hx hb dX7_greater_19 rfl (lv_at hl 0 rfl) ?_
    refine vk_getf hx hb (mE_NONE hm) va_S.rf hown (hts _ (zin__r2 (.fieldLink RX7 38 "ReckonBenchModel" "NONE" "[J") (List.mem_of_getElem? (i := 21) rfl))) (fun _ h9 => h9) dX7_greater_20 ?_
    refine lv_iload_n hx hb dX7_greater_23 rfl (lv_at hl 1 rfl) ?_
    refine va_tl hx hb (mT_NONE hm) va_S.rf (kin h_k) (v := .long (knan k)) (kev (fun j => Value.long (knan j)) h_k) dX7_greater_24 ?_
    exact W.lret hx hb hr (fun t ht hW => ⟨_, rfl, hf.symm, ht⟩) (fun q hq => absurd hq List.not_mem_nil) dX7_greater_25
  refine lv_if_ne (tgt := 19) hx hb dX7_greater_6 (by decide) (fun c_6 => ?_) (fun c_6 => ?_)
  · have hf : f_X7_greater k x1 x2 = (f_X7_greater_1 k) := hf.trans (if_neg c_6)
    exact K_19 () ls hf (lv_sub hl [0, 1] rfl)
  · have hf : f_X7_greater k x1 x2 = (f_X7_greater_4 k x1 x2) := hf.trans (if_pos c_6)
    refine lv_aload_n hx hb dX7_greater_9 rfl (lv_at hl 0 rfl) ?_
    refine lv_iload_n hx hb dX7_greater_10 rfl (lv_at hl 1 rfl) ?_
    refine lv_lload hx hb dX7_greater_11 (lv_at hl 3 rfl) ?_
    refine vp_callSi (va_Run.run (va_runV (As := [.int (nI k), .long x2]) (rest := []) ⟨hx, hb, hml, hown, hts⟩ (c_X7_none l o r k h_k x2) (cwV 2 hts (gV iX7_none (zin__r7 (.methodLink RX7 98 yX7_none) (List.mem_of_getElem? (i := 17) rfl))) rfl rfl rfl (by decide +kernel) ⟨Nat.le_of_ble_eq_true rfl, Nat.le_of_ble_eq_true rfl⟩) ⟨fun a U g mk q => ⟨q.1, mU_bl q.2⟩, (mU_rv hm), fun U hU hW => ⟨rfl, mU_mv hm hU hW⟩⟩ rfl rfl hl.1 rfl (lv_room (Nat.le_of_ble_eq_true rfl)) dX7_greater_13 ⟨Nat.zero_le _, Nat.zero_le _⟩)) (fun r_13 hr_13 => ?_)
    subst hr_13
    refine lv_if_eq (tgt := 26) hx hb dX7_greater_16 (by decide) (fun c_16 => ?_) (fun c_16 => ?_)
    · have hf : f_X7_greater k x1 x2 = (f_X7_greater_3 k x1 x2) := hf.trans (if_pos c_16)
      refine lv_aload_n hx hb dX7_greater_26 rfl (lv_at hl 0 rfl) ?_
      refine lv_iload_n hx hb dX7_greater_27 rfl (lv_at hl 1 rfl) ?_
      refine lv_lload_n hx hb dX7_greater_28 rfl (lv_at hl 2 rfl) ?_
      refine vp_callSl (va_Run.run (va_runV (As := [.int (nI k), .long x1]) (rest := []) ⟨hx, hb, hml, hown, hts⟩ (c_X7_rank l o r k h_k x1) (cwV 2 hts (gV iX7_rank (zin__r14 (.methodLink RX7 133 yX7_rank) (List.mem_of_getElem? (i := 11) rfl))) rfl rfl rfl (by decide +kernel) ⟨Nat.le_of_ble_eq_true rfl, Nat.le_of_ble_eq_true rfl⟩) ⟨fun a U g mk q => ⟨q.1, mU_bl q.2⟩, (mU_rv hm), fun U hU hW => ⟨rfl, mU_mv hm hU hW⟩⟩ rfl rfl hl.1 rfl (lv_room (Nat.le_of_ble_eq_true rfl)) dX7_greater_29 ⟨Nat.zero_le _, Nat.zero_le _⟩)) (fun r_29 hr_29 => ?_)
      subst hr_29
      refine lv_aload_n hx hb dX7_greater_32 rfl (lv_at hl 0 rfl) ?_
      refine lv_iload_n hx hb dX7_greater_33 rfl (lv_at hl 1 rfl) ?_
      refine lv_lload hx hb dX7_greater_34 (lv_at hl 3 rfl) ?_
      refine vp_callSl (va_Run.run (va_runV (As := [.int (nI k), .long x2]) (rest := [.long (f_X7_rank k x1)]) ⟨hx, hb, hml, hown, hts⟩ (c_X7_rank l o r k h_k x2) (cwV 2 hts (gV iX7_rank (zin__r14 (.methodLink RX7 133 yX7_rank) (List.mem_of_getElem? (i := 11) rfl))) rfl rfl rfl (by decide +kernel) ⟨Nat.le_of_ble_eq_true rfl, Nat.le_of_ble_eq_true rfl⟩) ⟨fun a U g mk q => ⟨q.1, mU_bl q.2⟩, (mU_rv hm), fun U hU hW => ⟨rfl, mU_mv hm hU hW⟩⟩ rfl rfl hl.1 rfl (lv_room (Nat.le_of_ble_eq_true rfl)) dX7_greater_36 ⟨Nat.zero_le _, Nat.zero_le _⟩)) (fun r_36 hr_36 => ?_)
      subst hr_36
      refine W.lcmp hx hb dX7_greater_39 ?_
      refine lv_if_ne (tgt := 48) hx hb dX7_greater_40 (by decide) (fun c_40 => ?_) (fun c_40 => ?_)
      · have c_40 : ¬ ((f_X7_rank k x1) = (f_X7_rank k x2)) := fun h9 => c_40 ((lg_cmp_eq (f_X7_rank k x1) (f_X7_rank k x2)).mpr h9)
        have hf : f_X7_greater k x1 x2 = (f_X7_greater_2 k x1 x2) := hf.trans (if_neg c_40)
        refine lv_aload_n hx hb dX7_greater_48 rfl (lv_at hl 0 rfl) ?_
        refine lv_iload_n hx hb dX7_greater_49 rfl (lv_at hl 1 rfl) ?_
        refine lv_lload_n hx hb dX7_greater_50 rfl (lv_at hl 2 rfl) ?_
        refine vp_callSl (va_Run.run (va_runV (As := [.int (nI k), .long x1]) (rest := []) ⟨hx, hb, hml, hown, hts⟩ (c_X7_rank l o r k h_k x1) (cwV 2 hts (gV iX7_rank (zin__r14 (.methodLink RX7 133 yX7_rank) (List.mem_of_getElem? (i := 11) rfl))) rfl rfl rfl (by decide +kernel) ⟨Nat.le_of_ble_eq_true rfl, Nat.le_of_ble_eq_true rfl⟩) ⟨fun a U g mk q => ⟨q.1, mU_bl q.2⟩, (mU_rv hm), fun U hU hW => ⟨rfl, mU_mv hm hU hW⟩⟩ rfl rfl hl.1 rfl (lv_room (Nat.le_of_ble_eq_true rfl)) dX7_greater_51 ⟨Nat.zero_le _, Nat.zero_le _⟩)) (fun r_51 hr_51 => ?_)
        subst hr_51
        refine lv_aload_n hx hb dX7_greater_54 rfl (lv_at hl 0 rfl) ?_
        refine lv_iload_n hx hb dX7_greater_55 rfl (lv_at hl 1 rfl) ?_
        refine lv_lload hx hb dX7_greater_56 (lv_at hl 3 rfl) ?_
        refine vp_callSl (va_Run.run (va_runV (As := [.int (nI k), .long x2]) (rest := [.long (f_X7_rank k x1)]) ⟨hx, hb, hml, hown, hts⟩ (c_X7_rank l o r k h_k x2) (cwV 2 hts (gV iX7_rank (zin__r14 (.methodLink RX7 133 yX7_rank) (List.mem_of_getElem? (i := 11) rfl))) rfl rfl rfl (by decide +kernel) ⟨Nat.le_of_ble_eq_true rfl, Nat.le_of_ble_eq_true rfl⟩) ⟨fun a U g mk q => ⟨q.1, mU_bl q.2⟩, (mU_rv hm), fun U hU hW => ⟨rfl, mU_mv hm hU hW⟩⟩ rfl rfl hl.1 rfl (lv_room (Nat.le_of_ble_eq_true rfl)) dX7_greater_58 ⟨Nat.zero_le _, Nat.zero_le _⟩)) (fun r_58 hr_58 => ?_)
        subst hr_58
        refine W.lcmp hx hb dX7_greater_61 ?_
        refine lv_if_le (tgt := 69) hx hb dX7_greater_62 (by decide) (fun c_62 => ?_) (fun c_62 => ?_)
        · have c_62 : (f_X7_rank k x1) ≤ (f_X7_rank k x2) := (lg_cmp_le (f_X7_rank k x1) (f_X7_rank k x2)).mp c_62
          have hf : f_X7_greater k x1 x2 = x2 := hf.trans (if_pos c_62)
          refine lv_lload hx hb dX7_greater_69 (lv_at hl 3 rfl) ?_
          exact W.lret hx hb hr (fun t ht hW => ⟨_, rfl, hf.symm, ht⟩) (fun q hq => absurd hq List.not_mem_nil) dX7_greater_71
        · have c_62 : ¬ ((f_X7_rank k x1) ≤ (f_X7_rank k x2)) := fun h9 => c_62 ((lg_cmp_le (f_X7_rank k x1) (f_X7_rank k x2)).mpr h9)
          have hf : f_X7_greater k x1 x2 = x1 := hf.trans (if_neg c_62)
          refine lv_lload_n hx hb dX7_greater_65 rfl (lv_at hl 2 rfl) ?_
          refine lv_goto (tgt := 71) hx hb dX7_greater_66 (by decide) ?_
          exact W.lret hx hb hr (fun t ht hW => ⟨_, rfl, hf.symm, ht⟩) (fun q hq => absurd hq List.not_mem_nil) dX7_greater_71
      · have c_40 : (f_X7_rank k x1) = (f_X7_rank k x2) := (lg_cmp_eq (f_X7_rank k x1) (f_X7_rank k x2)).mp c_40
        have hf : f_X7_greater k x1 x2 = (x1 &&& x2) := hf.trans (if_pos c_40)
        refine lv_lload_n hx hb dX7_greater_43 rfl (lv_at hl 2 rfl) ?_
        refine lv_lload hx hb dX7_greater_44 (lv_at hl 3 rfl) ?_
        refine lv_land hx hb dX7_greater_46 ?_
        exact W.lret hx hb hr (fun t ht hW => ⟨_, rfl, hf.symm, ht⟩) (fun q hq => absurd hq List.not_mem_nil) dX7_greater_47
    · have hf : f_X7_greater k x1 x2 = (f_X7_greater_1 k) := hf.trans (if_neg c_16)
      exact K_19 () ls hf (lv_sub hl [0, 1] rfl)
def f_X7_order_1 (k : Nat) (x1 : Int64) : Int32 := if (f_X7_none k x1) = 0 then (-1 : Int32) else (1 : Int32)
def f_X7_order_2 (k : Nat) (x1 : Int64) : Int32 := if (f_X7_minus k x1) = 0 then (1 : Int32) else (-1 : Int32)
def f_X7_order_3 (k : Nat) (x1 : Int64) (x2 : Int64) : Int32 := if (f_X7_rank k x2) ≤ (f_X7_rank k x1) then (1 : Int32) else (-1 : Int32)
def f_X7_order_4 (k : Nat) (x1 : Int64) (x2 : Int64) : Int32 := if (f_X7_rank k x1) = (f_X7_rank k x2) then (f_X7_order_2 k x1) else (f_X7_order_3 k x1 x2)
def f_X7_order_5 (k : Nat) (x1 : Int64) (x2 : Int64) : Int32 := if (f_X7_none k x2) = 0 then (f_X7_order_4 k x1 x2) else (f_X7_order_1 k x1)
def f_X7_order_6 (k : Nat) (x1 : Int64) (x2 : Int64) : Int32 := if (f_X7_none k x1) = 0 then (f_X7_order_5 k x1 x2) else (f_X7_order_1 k x1)
def f_X7_order_7 (k : Nat) (x1 : Int64) (x2 : Int64) : Int32 := if x1 = x2 then (0 : Int32) else (f_X7_order_6 k x1 x2)
def f_X7_order (k : Nat) (x1 : Int64) (x2 : Int64) : Int32 := (f_X7_order_7 k x1 x2)
def zX7_order : List Cond := .code yX7_order cX7_order 6 (some .int) :: zall
theorem iX7_order : MWv RX7 yX7_order (.code yX7_order cX7_order 6 (some .int)) := ⟨(zin__r15 (.instanceMethod yX7_order) (List.mem_of_getElem? (i := 16) rfl)), (zin__r15 (.selects RX7 yX7_order yX7_order) (List.mem_of_getElem? (i := 17) rfl)), (zin__r1 (.initialized RX7) (List.mem_of_getElem? (i := 5) rfl)), (zin__r15 (.code yX7_order cX7_order 6 (some .int)) (List.mem_of_getElem? (i := 18) rfl))⟩
set_option maxHeartbeats 4000000 in
set_option maxRecDepth 100000 in
theorem c_X7_order (l : Launch) (o : Nat) (r : Nat → Nat) (k : Nat) (h_k : k < 2) (x1 : Int64) (x2 : Int64) : Met l yX7_order zX7_order ({ frames := 2, cells := 0, slots := 0, locals := 46 }) (va_Pc [.ref o, .int (nI k), .long x1, .long x2] (fun U => mU o r U)) (vp_Si (fun r => r = f_X7_order k x1 x2)) 0 0 (fun _ => False) := by
  refine Met.ofW (cc := cX7_order) (maxL := 6) (ret := (some .int)) (by decide) rfl ?_
  intro p e s m args below meth c s₁ B hml hv
  obtain ⟨rfl, hm⟩ := hv
  have hx := B.exec
  have hb := B.bytes
  have hr := B.returns
  have hts : ∀ w ∈ zall, w.before _ s = true := fun w h => atoms_spec (ws := zX7_order) B.pre w (List.mem_cons_of_mem _ h)
  have hown : s.vm.findClass RX7 = some m.cls := findClass_of_methodNamed B.named
  have hlocks := B.notSynchronized
  have hl := lv_entry ([.ref o, .int (nI k), .long x1, .long x2]) (n := 6) (Nat.le_of_ble_eq_true rfl)
  rw [lg_entry_eq]
  generalize (lg_sl ([.ref o, .int (nI k), .long x1, .long x2]) ++ List.replicate (6 - (lg_sl ([.ref o, .int (nI k), .long x1, .long x2])).length) Slot.unset).toArray = ls at hl ⊢
  have hl : lv_has ls 6 [(0, .ref o), (1, .int (nI k)), (2, .long x1), (4, .long x2)] := hl
  have hf : f_X7_order k x1 x2 = (f_X7_order_7 k x1 x2) := rfl
  refine lv_lload_n hx hb dX7_order_0 rfl (lv_at hl 2 rfl) ?_
  refine lv_lload hx hb dX7_order_1 (lv_at hl 3 rfl) ?_
  refine W.lcmp hx hb dX7_order_3 ?_
  refine lv_if_ne (tgt := 9) hx hb dX7_order_4 (by decide) (fun c_4 => ?_) (fun c_4 => ?_)
  · have c_4 : ¬ (x1 = x2) := fun h9 => c_4 ((lg_cmp_eq x1 x2).mpr h9)
    have hf : f_X7_order k x1 x2 = (f_X7_order_6 k x1 x2) := hf.trans (if_neg c_4)
    refine lv_aload_n hx hb dX7_order_9 rfl (lv_at hl 0 rfl) ?_
    refine lv_iload_n hx hb dX7_order_10 rfl (lv_at hl 1 rfl) ?_
    refine lv_lload_n hx hb dX7_order_11 rfl (lv_at hl 2 rfl) ?_
    refine vp_callSi (va_Run.run (va_runV (As := [.int (nI k), .long x1]) (rest := []) ⟨hx, hb, hml, hown, hts⟩ (c_X7_none l o r k h_k x1) (cwV 2 hts (gV iX7_none (zin__r7 (.methodLink RX7 98 yX7_none) (List.mem_of_getElem? (i := 17) rfl))) rfl rfl rfl (by decide +kernel) ⟨Nat.le_of_ble_eq_true rfl, Nat.le_of_ble_eq_true rfl⟩) ⟨fun a U g mk q => ⟨q.1, mU_bl q.2⟩, (mU_rv hm), fun U hU hW => ⟨rfl, mU_mv hm hU hW⟩⟩ rfl rfl hl.1 rfl (lv_room (Nat.le_of_ble_eq_true rfl)) dX7_order_12 ⟨Nat.zero_le _, Nat.zero_le _⟩)) (fun r_12 hr_12 => ?_)
    subst hr_12
    refine W_cut (α := Unit) (pcJ := 28) (nL := 6) (fun v => f_X7_order k x1 x2 = (f_X7_order_1 k x1)) (fun v => []) (fun v => [(0, .ref o), (1, .int (nI k)), (2, .long x1)]) (fun v ls hf hl => ?_) (fun K_28 => ?_)
    · have hf : f_X7_order k x1 x2 = (f_X7_order_1 k x1) := hf
      have hl : lv_has ls 6 [(0, .ref o), (1, .int (nI k)), (2, .long x1)] := hl
      refine lv_aload_n hx hb dX7_order_28 rfl (lv_at hl 0 rfl) ?_
      refine lv_iload_n hx hb dX7_order_29 rfl (lv_at hl 1 rfl) ?_
      refine lv_lload_n hx hb dX7_order_30 rfl (lv_at hl 2 rfl) ?_
      refine vp_callSi (va_Run.run (va_runV (As := [.int (nI k), .long x1]) (rest := []) ⟨hx, hb, hml, hown, hts⟩ (c_X7_none l o r k h_k x1) (cwV 2 hts (gV iX7_none (zin__r7 (.methodLink RX7 98 yX7_none) (List.mem_of_getElem? (i := 17) rfl))) rfl rfl rfl (by decide +kernel) ⟨Nat.le_of_ble_eq_true rfl, Nat.le_of_ble_eq_true rfl⟩) ⟨fun a U g mk q => ⟨q.1, mU_bl q.2⟩, (mU_rv hm), fun U hU hW => ⟨rfl, mU_mv hm hU hW⟩⟩ rfl rfl hl.1 rfl (lv_room (Nat.le_of_ble_eq_true rfl)) dX7_order_31 ⟨Nat.zero_le _, Nat.zero_le _⟩)) (fun r_31 hr_31 => ?_)
      subst hr_31
      refine lv_if_eq (tgt := 41) hx hb dX7_order_34 (by decide) (fun c_34 => ?_) (fun c_34 => ?_)
      · have hf : f_X7_order k x1 x2 = (-1 : Int32) := hf.trans (if_pos c_34)
        refine lv_iconst (v := -1) hx hb dX7_order_41 (by decide) ?_
        exact W.iret hx hb hr (fun t ht hW => ⟨_, rfl, hf.symm, ht⟩) (fun q hq => absurd hq List.not_mem_nil) dX7_order_42
      · have hf : f_X7_order k x1 x2 = (1 : Int32) := hf.trans (if_neg c_34)
        refine lv_iconst (v := 1) hx hb dX7_order_37 (by decide) ?_
        refine lv_goto (tgt := 42) hx hb dX7_order_38 (by decide) ?_
        exact W.iret hx hb hr (fun t ht hW => ⟨_, rfl, hf.symm, ht⟩) (fun q hq => absurd hq List.not_mem_nil) dX7_order_42
    refine lv_if_ne (tgt := 28) hx hb dX7_order_15 (by decide) (fun c_15 => ?_) (fun c_15 => ?_)
    · have hf : f_X7_order k x1 x2 = (f_X7_order_1 k x1) := hf.trans (if_neg c_15)
      exact K_28 () ls hf (lv_sub hl [0, 1, 2] rfl)
    · have hf : f_X7_order k x1 x2 = (f_X7_order_5 k x1 x2) := hf.trans (if_pos c_15)
      refine lv_aload_n hx hb dX7_order_18 rfl (lv_at hl 0 rfl) ?_
      refine lv_iload_n hx hb dX7_order_19 rfl (lv_at hl 1 rfl) ?_
      refine lv_lload hx hb dX7_order_20 (lv_at hl 3 rfl) ?_
      refine vp_callSi (va_Run.run (va_runV (As := [.int (nI k), .long x2]) (rest := []) ⟨hx, hb, hml, hown, hts⟩ (c_X7_none l o r k h_k x2) (cwV 2 hts (gV iX7_none (zin__r7 (.methodLink RX7 98 yX7_none) (List.mem_of_getElem? (i := 17) rfl))) rfl rfl rfl (by decide +kernel) ⟨Nat.le_of_ble_eq_true rfl, Nat.le_of_ble_eq_true rfl⟩) ⟨fun a U g mk q => ⟨q.1, mU_bl q.2⟩, (mU_rv hm), fun U hU hW => ⟨rfl, mU_mv hm hU hW⟩⟩ rfl rfl hl.1 rfl (lv_room (Nat.le_of_ble_eq_true rfl)) dX7_order_22 ⟨Nat.zero_le _, Nat.zero_le _⟩)) (fun r_22 hr_22 => ?_)
      subst hr_22
      refine lv_if_eq (tgt := 43) hx hb dX7_order_25 (by decide) (fun c_25 => ?_) (fun c_25 => ?_)
      · have hf : f_X7_order k x1 x2 = (f_X7_order_4 k x1 x2) := hf.trans (if_pos c_25)
        refine lv_aload_n hx hb dX7_order_43 rfl (lv_at hl 0 rfl) ?_
        refine lv_iload_n hx hb dX7_order_44 rfl (lv_at hl 1 rfl) ?_
        refine lv_lload_n hx hb dX7_order_45 rfl (lv_at hl 2 rfl) ?_
        refine vp_callSl (va_Run.run (va_runV (As := [.int (nI k), .long x1]) (rest := []) ⟨hx, hb, hml, hown, hts⟩ (c_X7_rank l o r k h_k x1) (cwV 2 hts (gV iX7_rank (zin__r14 (.methodLink RX7 133 yX7_rank) (List.mem_of_getElem? (i := 11) rfl))) rfl rfl rfl (by decide +kernel) ⟨Nat.le_of_ble_eq_true rfl, Nat.le_of_ble_eq_true rfl⟩) ⟨fun a U g mk q => ⟨q.1, mU_bl q.2⟩, (mU_rv hm), fun U hU hW => ⟨rfl, mU_mv hm hU hW⟩⟩ rfl rfl hl.1 rfl (lv_room (Nat.le_of_ble_eq_true rfl)) dX7_order_46 ⟨Nat.zero_le _, Nat.zero_le _⟩)) (fun r_46 hr_46 => ?_)
        subst hr_46
        refine lv_aload_n hx hb dX7_order_49 rfl (lv_at hl 0 rfl) ?_
        refine lv_iload_n hx hb dX7_order_50 rfl (lv_at hl 1 rfl) ?_
        refine lv_lload hx hb dX7_order_51 (lv_at hl 3 rfl) ?_
        refine vp_callSl (va_Run.run (va_runV (As := [.int (nI k), .long x2]) (rest := [.long (f_X7_rank k x1)]) ⟨hx, hb, hml, hown, hts⟩ (c_X7_rank l o r k h_k x2) (cwV 2 hts (gV iX7_rank (zin__r14 (.methodLink RX7 133 yX7_rank) (List.mem_of_getElem? (i := 11) rfl))) rfl rfl rfl (by decide +kernel) ⟨Nat.le_of_ble_eq_true rfl, Nat.le_of_ble_eq_true rfl⟩) ⟨fun a U g mk q => ⟨q.1, mU_bl q.2⟩, (mU_rv hm), fun U hU hW => ⟨rfl, mU_mv hm hU hW⟩⟩ rfl rfl hl.1 rfl (lv_room (Nat.le_of_ble_eq_true rfl)) dX7_order_53 ⟨Nat.zero_le _, Nat.zero_le _⟩)) (fun r_53 hr_53 => ?_)
        subst hr_53
        refine W.lcmp hx hb dX7_order_56 ?_
        refine lv_if_eq (tgt := 83) hx hb dX7_order_57 (by decide) (fun c_57 => ?_) (fun c_57 => ?_)
        · have c_57 : (f_X7_rank k x1) = (f_X7_rank k x2) := (lg_cmp_eq (f_X7_rank k x1) (f_X7_rank k x2)).mp c_57
          have hf : f_X7_order k x1 x2 = (f_X7_order_2 k x1) := hf.trans (if_pos c_57)
          refine lv_aload_n hx hb dX7_order_83 rfl (lv_at hl 0 rfl) ?_
          refine lv_iload_n hx hb dX7_order_84 rfl (lv_at hl 1 rfl) ?_
          refine lv_lload_n hx hb dX7_order_85 rfl (lv_at hl 2 rfl) ?_
          refine vp_callSi (va_Run.run (va_runV (As := [.int (nI k), .long x1]) (rest := []) ⟨hx, hb, hml, hown, hts⟩ (c_X7_minus l o r k h_k x1) (cwV 2 hts (gV iX7_minus (zin__r8 (.methodLink RX7 108 yX7_minus) (List.mem_of_getElem? (i := 5) rfl))) rfl rfl rfl (by decide +kernel) ⟨Nat.le_of_ble_eq_true rfl, Nat.le_of_ble_eq_true rfl⟩) ⟨fun a U g mk q => ⟨q.1, mU_bl q.2⟩, (mU_rv hm), fun U hU hW => ⟨rfl, mU_mv hm hU hW⟩⟩ rfl rfl hl.1 rfl (lv_room (Nat.le_of_ble_eq_true rfl)) dX7_order_86 ⟨Nat.zero_le _, Nat.zero_le _⟩)) (fun r_86 hr_86 => ?_)
          subst hr_86
          refine lv_if_eq (tgt := 96) hx hb dX7_order_89 (by decide) (fun c_89 => ?_) (fun c_89 => ?_)
          · have hf : f_X7_order k x1 x2 = (1 : Int32) := hf.trans (if_pos c_89)
            refine lv_iconst (v := 1) hx hb dX7_order_96 (by decide) ?_
            exact W.iret hx hb hr (fun t ht hW => ⟨_, rfl, hf.symm, ht⟩) (fun q hq => absurd hq List.not_mem_nil) dX7_order_97
          · have hf : f_X7_order k x1 x2 = (-1 : Int32) := hf.trans (if_neg c_89)
            refine lv_iconst (v := -1) hx hb dX7_order_92 (by decide) ?_
            refine lv_goto (tgt := 97) hx hb dX7_order_93 (by decide) ?_
            exact W.iret hx hb hr (fun t ht hW => ⟨_, rfl, hf.symm, ht⟩) (fun q hq => absurd hq List.not_mem_nil) dX7_order_97
        · have c_57 : ¬ ((f_X7_rank k x1) = (f_X7_rank k x2)) := fun h9 => c_57 ((lg_cmp_eq (f_X7_rank k x1) (f_X7_rank k x2)).mpr h9)
          have hf : f_X7_order k x1 x2 = (f_X7_order_3 k x1 x2) := hf.trans (if_neg c_57)
          refine lv_aload_n hx hb dX7_order_60 rfl (lv_at hl 0 rfl) ?_
          refine lv_iload_n hx hb dX7_order_61 rfl (lv_at hl 1 rfl) ?_
          refine lv_lload_n hx hb dX7_order_62 rfl (lv_at hl 2 rfl) ?_
          refine vp_callSl (va_Run.run (va_runV (As := [.int (nI k), .long x1]) (rest := []) ⟨hx, hb, hml, hown, hts⟩ (c_X7_rank l o r k h_k x1) (cwV 2 hts (gV iX7_rank (zin__r14 (.methodLink RX7 133 yX7_rank) (List.mem_of_getElem? (i := 11) rfl))) rfl rfl rfl (by decide +kernel) ⟨Nat.le_of_ble_eq_true rfl, Nat.le_of_ble_eq_true rfl⟩) ⟨fun a U g mk q => ⟨q.1, mU_bl q.2⟩, (mU_rv hm), fun U hU hW => ⟨rfl, mU_mv hm hU hW⟩⟩ rfl rfl hl.1 rfl (lv_room (Nat.le_of_ble_eq_true rfl)) dX7_order_63 ⟨Nat.zero_le _, Nat.zero_le _⟩)) (fun r_63 hr_63 => ?_)
          subst hr_63
          refine lv_aload_n hx hb dX7_order_66 rfl (lv_at hl 0 rfl) ?_
          refine lv_iload_n hx hb dX7_order_67 rfl (lv_at hl 1 rfl) ?_
          refine lv_lload hx hb dX7_order_68 (lv_at hl 3 rfl) ?_
          refine vp_callSl (va_Run.run (va_runV (As := [.int (nI k), .long x2]) (rest := [.long (f_X7_rank k x1)]) ⟨hx, hb, hml, hown, hts⟩ (c_X7_rank l o r k h_k x2) (cwV 2 hts (gV iX7_rank (zin__r14 (.methodLink RX7 133 yX7_rank) (List.mem_of_getElem? (i := 11) rfl))) rfl rfl rfl (by decide +kernel) ⟨Nat.le_of_ble_eq_true rfl, Nat.le_of_ble_eq_true rfl⟩) ⟨fun a U g mk q => ⟨q.1, mU_bl q.2⟩, (mU_rv hm), fun U hU hW => ⟨rfl, mU_mv hm hU hW⟩⟩ rfl rfl hl.1 rfl (lv_room (Nat.le_of_ble_eq_true rfl)) dX7_order_70 ⟨Nat.zero_le _, Nat.zero_le _⟩)) (fun r_70 hr_70 => ?_)
          subst hr_70
          refine W.lcmp hx hb dX7_order_73 ?_
          refine lv_if_ge (tgt := 81) hx hb dX7_order_74 (by decide) (fun c_74 => ?_) (fun c_74 => ?_)
          · have c_74 : (f_X7_rank k x2) ≤ (f_X7_rank k x1) := (lg_cmp_ge (f_X7_rank k x1) (f_X7_rank k x2)).mp c_74
            have hf : f_X7_order k x1 x2 = (1 : Int32) := hf.trans (if_pos c_74)
            refine lv_iconst (v := 1) hx hb dX7_order_81 (by decide) ?_
            exact W.iret hx hb hr (fun t ht hW => ⟨_, rfl, hf.symm, ht⟩) (fun q hq => absurd hq List.not_mem_nil) dX7_order_82
          · have c_74 : ¬ ((f_X7_rank k x2) ≤ (f_X7_rank k x1)) := fun h9 => c_74 ((lg_cmp_ge (f_X7_rank k x1) (f_X7_rank k x2)).mpr h9)
            have hf : f_X7_order k x1 x2 = (-1 : Int32) := hf.trans (if_neg c_74)
            refine lv_iconst (v := -1) hx hb dX7_order_77 (by decide) ?_
            refine lv_goto (tgt := 82) hx hb dX7_order_78 (by decide) ?_
            exact W.iret hx hb hr (fun t ht hW => ⟨_, rfl, hf.symm, ht⟩) (fun q hq => absurd hq List.not_mem_nil) dX7_order_82
      · have hf : f_X7_order k x1 x2 = (f_X7_order_1 k x1) := hf.trans (if_neg c_25)
        exact K_28 () ls hf (lv_sub hl [0, 1, 2] rfl)
  · have c_4 : x1 = x2 := (lg_cmp_eq x1 x2).mp c_4
    have hf : f_X7_order k x1 x2 = (0 : Int32) := hf.trans (if_pos c_4)
    refine lv_iconst (v := 0) hx hb dX7_order_7 (by decide) ?_
    exact W.iret hx hb hr (fun t ht hW => ⟨_, rfl, hf.symm, ht⟩) (fun q hq => absurd hq List.not_mem_nil) dX7_order_8
def f_X7_ofRank_1 (k : Nat) (x1 : Int64) (w_1 : Int64) : Int64 := if (0 : Int64) ≤ x1 then (f_X7_signed k w_1 (0 : Int32)) else (f_X7_signed k w_1 (1 : Int32))
def f_X7_ofRank_2 (k : Nat) (x1 : Int64) : Int64 := if (0 : Int64) ≤ x1 then (f_X7_ofRank_1 k x1 x1) else (f_X7_ofRank_1 k x1 (-x1))
def f_X7_ofRank_3 (k : Nat) (x1 : Int64) (x2 : Int32) : Int64 := if x1 = (0 : Int64) then (f_X7_signed k (0 : Int64) x2) else (f_X7_ofRank_2 k x1)
def f_X7_ofRank (k : Nat) (x1 : Int64) (x2 : Int32) : Int64 := (f_X7_ofRank_3 k x1 x2)
def zX7_ofRank : List Cond := .code yX7_ofRank cX7_ofRank 5 (some .long) :: zall
theorem iX7_ofRank : MWv RX7 yX7_ofRank (.code yX7_ofRank cX7_ofRank 5 (some .long)) := ⟨(zin__r23 (.instanceMethod yX7_ofRank) (List.mem_of_getElem? (i := 4) rfl)), (zin__r23 (.selects RX7 yX7_ofRank yX7_ofRank) (List.mem_of_getElem? (i := 5) rfl)), (zin__r1 (.initialized RX7) (List.mem_of_getElem? (i := 5) rfl)), (zin__r23 (.code yX7_ofRank cX7_ofRank 5 (some .long)) (List.mem_of_getElem? (i := 6) rfl))⟩
set_option maxHeartbeats 4000000 in
set_option maxRecDepth 100000 in
theorem c_X7_ofRank (l : Launch) (o : Nat) (r : Nat → Nat) (k : Nat) (h_k : k < 2) (x1 : Int64) (x2 : Int32) : Met l yX7_ofRank zX7_ofRank ({ frames := 1, cells := 0, slots := 0, locals := 24 }) (va_Pc [.ref o, .int (nI k), .long x1, .int x2] (fun U => mU o r U)) (vp_Sl (fun r => r = f_X7_ofRank k x1 x2)) 0 0 (fun _ => False) := by
  refine Met.ofW (cc := cX7_ofRank) (maxL := 5) (ret := (some .long)) (by decide) rfl ?_
  intro p e s m args below meth c s₁ B hml hv
  obtain ⟨rfl, hm⟩ := hv
  have hx := B.exec
  have hb := B.bytes
  have hr := B.returns
  have hts : ∀ w ∈ zall, w.before _ s = true := fun w h => atoms_spec (ws := zX7_ofRank) B.pre w (List.mem_cons_of_mem _ h)
  have hown : s.vm.findClass RX7 = some m.cls := findClass_of_methodNamed B.named
  have hlocks := B.notSynchronized
  have hl := lv_entry ([.ref o, .int (nI k), .long x1, .int x2]) (n := 5) (Nat.le_of_ble_eq_true rfl)
  rw [lg_entry_eq]
  generalize (lg_sl ([.ref o, .int (nI k), .long x1, .int x2]) ++ List.replicate (5 - (lg_sl ([.ref o, .int (nI k), .long x1, .int x2])).length) Slot.unset).toArray = ls at hl ⊢
  have hl : lv_has ls 5 [(0, .ref o), (1, .int (nI k)), (2, .long x1), (4, .int x2)] := hl
  have hf : f_X7_ofRank k x1 x2 = (f_X7_ofRank_3 k x1 x2) := rfl
  refine lv_lload_n hx hb dX7_ofRank_0 rfl (lv_at hl 2 rfl) ?_
  refine lv_lconst (v := 0) hx hb dX7_ofRank_1 (by decide) ?_
  refine W.lcmp hx hb dX7_ofRank_2 ?_
  refine lv_if_ne (tgt := 17) hx hb dX7_ofRank_3 (by decide) (fun c_3 => ?_) (fun c_3 => ?_)
  · have c_3 : ¬ (x1 = (0 : Int64)) := fun h9 => c_3 ((lg_cmp_eq x1 (0 : Int64)).mpr h9)
    have hf : f_X7_ofRank k x1 x2 = (f_X7_ofRank_2 k x1) := hf.trans (if_neg c_3)
    refine lv_aload_n hx hb dX7_ofRank_17 rfl (lv_at hl 0 rfl) ?_
    refine lv_iload_n hx hb dX7_ofRank_18 rfl (lv_at hl 1 rfl) ?_
    refine lv_lload_n hx hb dX7_ofRank_19 rfl (lv_at hl 2 rfl) ?_
    refine lv_lconst (v := 0) hx hb dX7_ofRank_20 (by decide) ?_
    refine W.lcmp hx hb dX7_ofRank_21 ?_
    refine W_cut (α := Int64) (pcJ := 31) (nL := 5) (fun v => f_X7_ofRank k x1 x2 = (f_X7_ofRank_1 k x1 v)) (fun v => [.long v, .int (nI k), .ref o]) (fun v => [(2, .long x1)]) (fun w_1 ls hf hl => ?_) (fun K_31 => ?_)
    · have hf : f_X7_ofRank k x1 x2 = (f_X7_ofRank_1 k x1 w_1) := hf
      have hl : lv_has ls 5 [(2, .long x1)] := hl
      refine lv_lload_n hx hb dX7_ofRank_31 rfl (lv_at hl 0 rfl) ?_
      refine lv_lconst (v := 0) hx hb dX7_ofRank_32 (by decide) ?_
      refine W.lcmp hx hb dX7_ofRank_33 ?_
      refine W_cut (α := Int32) (pcJ := 42) (nL := 5) (fun v => f_X7_ofRank k x1 x2 = (f_X7_signed k w_1 v)) (fun v => [.int v, .long w_1, .int (nI k), .ref o]) (fun v => []) (fun w_2 ls hf hl => ?_) (fun K_42 => ?_)
      · have hf : f_X7_ofRank k x1 x2 = (f_X7_signed k w_1 w_2) := hf
        have hl : lv_has ls 5 [] := hl
        refine vp_callSl (va_Run.run (va_runV (As := [.int (nI k), .long w_1, .int w_2]) (rest := []) ⟨hx, hb, hml, hown, hts⟩ (c_X7_signed l o r k h_k w_1 w_2) (cwV 3 hts (gV iX7_signed (zin__r10 (.methodLink RX7 111 yX7_signed) (List.mem_of_getElem? (i := 5) rfl))) rfl rfl rfl (by decide +kernel) ⟨Nat.le_of_ble_eq_true rfl, Nat.le_of_ble_eq_true rfl⟩) ⟨fun a U g mk q => ⟨q.1, mU_bl q.2⟩, (mU_rv hm), fun U hU hW => ⟨rfl, mU_mv hm hU hW⟩⟩ rfl rfl hl.1 rfl (lv_room (Nat.le_of_ble_eq_true rfl)) dX7_ofRank_42 ⟨Nat.zero_le _, Nat.zero_le _⟩)) (fun r_42 hr_42 => ?_)
        subst hr_42
        exact W.lret hx hb hr (fun t ht hW => ⟨_, rfl, hf.symm, ht⟩) (fun q hq => absurd hq List.not_mem_nil) dX7_ofRank_45
      refine lv_if_ge (tgt := 41) hx hb dX7_ofRank_34 (by decide) (fun c_34 => ?_) (fun c_34 => ?_)
      · have c_34 : (0 : Int64) ≤ x1 := (lg_cmp_ge x1 (0 : Int64)).mp c_34
        have hf : f_X7_ofRank k x1 x2 = (f_X7_signed k w_1 (0 : Int32)) := hf.trans (if_pos c_34)
        refine lv_iconst (v := 0) hx hb dX7_ofRank_41 (by decide) ?_
        exact K_42 (0 : Int32) ls hf (lv_sub hl [] rfl)
      · have c_34 : ¬ ((0 : Int64) ≤ x1) := fun h9 => c_34 ((lg_cmp_ge x1 (0 : Int64)).mpr h9)
        have hf : f_X7_ofRank k x1 x2 = (f_X7_signed k w_1 (1 : Int32)) := hf.trans (if_neg c_34)
        refine lv_iconst (v := 1) hx hb dX7_ofRank_37 (by decide) ?_
        refine lv_goto (tgt := 42) hx hb dX7_ofRank_38 (by decide) ?_
        exact K_42 (1 : Int32) ls hf (lv_sub hl [] rfl)
    refine lv_if_ge (tgt := 30) hx hb dX7_ofRank_22 (by decide) (fun c_22 => ?_) (fun c_22 => ?_)
    · have c_22 : (0 : Int64) ≤ x1 := (lg_cmp_ge x1 (0 : Int64)).mp c_22
      have hf : f_X7_ofRank k x1 x2 = (f_X7_ofRank_1 k x1 x1) := hf.trans (if_pos c_22)
      refine lv_lload_n hx hb dX7_ofRank_30 rfl (lv_at hl 2 rfl) ?_
      exact K_31 x1 ls hf (lv_sub hl [2] rfl)
    · have c_22 : ¬ ((0 : Int64) ≤ x1) := fun h9 => c_22 ((lg_cmp_ge x1 (0 : Int64)).mpr h9)
      have hf : f_X7_ofRank k x1 x2 = (f_X7_ofRank_1 k x1 (-x1)) := hf.trans (if_neg c_22)
      refine lv_lload_n hx hb dX7_ofRank_25 rfl (lv_at hl 2 rfl) ?_
      refine lv_lneg hx hb dX7_ofRank_26 ?_
      refine lv_goto (tgt := 31) hx hb dX7_ofRank_27 (by decide) ?_
      exact K_31 (-x1) ls hf (lv_sub hl [2] rfl)
  · have c_3 : x1 = (0 : Int64) := (lg_cmp_eq x1 (0 : Int64)).mp c_3
    have hf : f_X7_ofRank k x1 x2 = (f_X7_signed k (0 : Int64) x2) := hf.trans (if_pos c_3)
    refine lv_aload_n hx hb dX7_ofRank_6 rfl (lv_at hl 0 rfl) ?_
    refine lv_iload_n hx hb dX7_ofRank_7 rfl (lv_at hl 1 rfl) ?_
    refine lv_lconst (v := 0) hx hb dX7_ofRank_8 (by decide) ?_
    refine lv_iload hx hb dX7_ofRank_9 (lv_at hl 3 rfl) ?_
    refine vp_callSl (va_Run.run (va_runV (As := [.int (nI k), .long (0 : Int64), .int x2]) (rest := []) ⟨hx, hb, hml, hown, hts⟩ (c_X7_signed l o r k h_k (0 : Int64) x2) (cwV 3 hts (gV iX7_signed (zin__r10 (.methodLink RX7 111 yX7_signed) (List.mem_of_getElem? (i := 5) rfl))) rfl rfl rfl (by decide +kernel) ⟨Nat.le_of_ble_eq_true rfl, Nat.le_of_ble_eq_true rfl⟩) ⟨fun a U g mk q => ⟨q.1, mU_bl q.2⟩, (mU_rv hm), fun U hU hW => ⟨rfl, mU_mv hm hU hW⟩⟩ rfl rfl hl.1 rfl (lv_room (Nat.le_of_ble_eq_true rfl)) dX7_ofRank_11 ⟨Nat.zero_le _, Nat.zero_le _⟩)) (fun r_11 hr_11 => ?_)
    subst hr_11
    refine lv_goto (tgt := 45) hx hb dX7_ofRank_14 (by decide) ?_
    exact W.lret hx hb hr (fun t ht hW => ⟨_, rfl, hf.symm, ht⟩) (fun q hq => absurd hq List.not_mem_nil) dX7_ofRank_45
def f_X7_downward_1 (k : Nat) (x1 : Int64) : Int64 := if (f_X7_rank k x1) = (-(kinf k)) then x1 else (f_X7_ofRank k ((f_X7_rank k x1) - (1 : Int64)) (0 : Int32))
def f_X7_downward_2 (k : Nat) (x1 : Int64) : Int64 := if (f_X7_none k x1) = 0 then (f_X7_downward_1 k x1) else (f_X7_signed k (kinf k) (1 : Int32))
def f_X7_downward (k : Nat) (x1 : Int64) : Int64 := (f_X7_downward_2 k x1)
def zX7_downward : List Cond := .code yX7_downward cX7_downward 4 (some .long) :: zall
theorem iX7_downward : MWv RX7 yX7_downward (.code yX7_downward cX7_downward 4 (some .long)) := ⟨(zin__r30 (.instanceMethod yX7_downward) (List.mem_of_getElem? (i := 20) rfl)), (zin__r30 (.selects RX7 yX7_downward yX7_downward) (List.mem_of_getElem? (i := 21) rfl)), (zin__r1 (.initialized RX7) (List.mem_of_getElem? (i := 5) rfl)), (zin__r30 (.code yX7_downward cX7_downward 4 (some .long)) (List.mem_of_getElem? (i := 22) rfl))⟩
set_option maxHeartbeats 4000000 in
set_option maxRecDepth 100000 in
theorem c_X7_downward (l : Launch) (o : Nat) (r : Nat → Nat) (k : Nat) (h_k : k < 2) (x1 : Int64) : Met l yX7_downward zX7_downward ({ frames := 2, cells := 0, slots := 0, locals := 48 }) (va_Pc [.ref o, .int (nI k), .long x1] (fun U => mU o r U)) (vp_Sl (fun r => r = f_X7_downward k x1)) 0 0 (fun _ => False) := by
  refine Met.ofW (cc := cX7_downward) (maxL := 4) (ret := (some .long)) (by decide) rfl ?_
  intro p e s m args below meth c s₁ B hml hv
  obtain ⟨rfl, hm⟩ := hv
  have hx := B.exec
  have hb := B.bytes
  have hr := B.returns
  have hts : ∀ w ∈ zall, w.before _ s = true := fun w h => atoms_spec (ws := zX7_downward) B.pre w (List.mem_cons_of_mem _ h)
  have hown : s.vm.findClass RX7 = some m.cls := findClass_of_methodNamed B.named
  have hlocks := B.notSynchronized
  have hl := lv_entry ([.ref o, .int (nI k), .long x1]) (n := 4) (Nat.le_of_ble_eq_true rfl)
  rw [lg_entry_eq]
  generalize (lg_sl ([.ref o, .int (nI k), .long x1]) ++ List.replicate (4 - (lg_sl ([.ref o, .int (nI k), .long x1])).length) Slot.unset).toArray = ls at hl ⊢
  have hl : lv_has ls 4 [(0, .ref o), (1, .int (nI k)), (2, .long x1)] := hl
  have hf : f_X7_downward k x1 = (f_X7_downward_2 k x1) := rfl
  refine lv_aload_n hx hb dX7_downward_0 rfl (lv_at hl 0 rfl) ?_
  refine lv_iload_n hx hb dX7_downward_1 rfl (lv_at hl 1 rfl) ?_
  refine lv_lload_n hx hb dX7_downward_2 rfl (lv_at hl 2 rfl) ?_
  refine vp_callSi (va_Run.run (va_runV (As := [.int (nI k), .long x1]) (rest := []) ⟨hx, hb, hml, hown, hts⟩ (c_X7_none l o r k h_k x1) (cwV 2 hts (gV iX7_none (zin__r7 (.methodLink RX7 98 yX7_none) (List.mem_of_getElem? (i := 17) rfl))) rfl rfl rfl (by decide +kernel) ⟨Nat.le_of_ble_eq_true rfl, Nat.le_of_ble_eq_true rfl⟩) ⟨fun a U g mk q => ⟨q.1, mU_bl q.2⟩, (mU_rv hm), fun U hU hW => ⟨rfl, mU_mv hm hU hW⟩⟩ rfl rfl hl.1 rfl (lv_room (Nat.le_of_ble_eq_true rfl)) dX7_downward_3 ⟨Nat.zero_le _, Nat.zero_le _⟩)) (fun r_3 hr_3 => ?_)
  subst hr_3
  refine lv_if_eq (tgt := 22) hx hb dX7_downward_6 (by decide) (fun c_6 => ?_) (fun c_6 => ?_)
  · have hf : f_X7_downward k x1 = (f_X7_downward_1 k x1) := hf.trans (if_pos c_6)
    refine lv_aload_n hx hb dX7_downward_22 rfl (lv_at hl 0 rfl) ?_
    refine lv_iload_n hx hb dX7_downward_23 rfl (lv_at hl 1 rfl) ?_
    refine lv_lload_n hx hb dX7_downward_24 rfl (lv_at hl 2 rfl) ?_
    refine vp_callSl (va_Run.run (va_runV (As := [.int (nI k), .long x1]) (rest := []) ⟨hx, hb, hml, hown, hts⟩ (c_X7_rank l o r k h_k x1) (cwV 2 hts (gV iX7_rank (zin__r14 (.methodLink RX7 133 yX7_rank) (List.mem_of_getElem? (i := 11) rfl))) rfl rfl rfl (by decide +kernel) ⟨Nat.le_of_ble_eq_true rfl, Nat.le_of_ble_eq_true rfl⟩) ⟨fun a U g mk q => ⟨q.1, mU_bl q.2⟩, (mU_rv hm), fun U hU hW => ⟨rfl, mU_mv hm hU hW⟩⟩ rfl rfl hl.1 rfl (lv_room (Nat.le_of_ble_eq_true rfl)) dX7_downward_25 ⟨Nat.zero_le _, Nat.zero_le _⟩)) (fun r_25 hr_25 => ?_)
    subst hr_25
    refine lv_aload_n hx hb dX7_downward_28 rfl (lv_at hl 0 rfl) ?_
    refine vk_getf hx hb (mE_INFINITE hm) va_S.rf hown (hts _ (zin__r2 (.fieldLink RX7 31 "ReckonBenchModel" "INFINITE" "[J") (List.mem_of_getElem? (i := 18) rfl))) (fun _ h9 => h9) dX7_downward_29 ?_
    refine lv_iload_n hx hb dX7_downward_32 rfl (lv_at hl 1 rfl) ?_
    refine va_tl hx hb (mT_INFINITE hm) va_S.rf (kin h_k) (v := .long (kinf k)) (kev (fun j => Value.long (kinf j)) h_k) dX7_downward_33 ?_
    refine lv_lneg hx hb dX7_downward_34 ?_
    refine W.lcmp hx hb dX7_downward_35 ?_
    refine lv_if_ne (tgt := 43) hx hb dX7_downward_36 (by decide) (fun c_36 => ?_) (fun c_36 => ?_)
    · have c_36 : ¬ ((f_X7_rank k x1) = (-(kinf k))) := fun h9 => c_36 ((lg_cmp_eq (f_X7_rank k x1) (-(kinf k))).mpr h9)
      have hf : f_X7_downward k x1 = (f_X7_ofRank k ((f_X7_rank k x1) - (1 : Int64)) (0 : Int32)) := hf.trans (if_neg c_36)
      refine lv_aload_n hx hb dX7_downward_43 rfl (lv_at hl 0 rfl) ?_
      refine lv_iload_n hx hb dX7_downward_44 rfl (lv_at hl 1 rfl) ?_
      refine lv_aload_n hx hb dX7_downward_45 rfl (lv_at hl 0 rfl) ?_
      refine lv_iload_n hx hb dX7_downward_46 rfl (lv_at hl 1 rfl) ?_
      refine lv_lload_n hx hb dX7_downward_47 rfl (lv_at hl 2 rfl) ?_
      refine vp_callSl (va_Run.run (va_runV (As := [.int (nI k), .long x1]) (rest := [.int (nI k), .ref o]) ⟨hx, hb, hml, hown, hts⟩ (c_X7_rank l o r k h_k x1) (cwV 2 hts (gV iX7_rank (zin__r14 (.methodLink RX7 133 yX7_rank) (List.mem_of_getElem? (i := 11) rfl))) rfl rfl rfl (by decide +kernel) ⟨Nat.le_of_ble_eq_true rfl, Nat.le_of_ble_eq_true rfl⟩) ⟨fun a U g mk q => ⟨q.1, mU_bl q.2⟩, (mU_rv hm), fun U hU hW => ⟨rfl, mU_mv hm hU hW⟩⟩ rfl rfl hl.1 rfl (lv_room (Nat.le_of_ble_eq_true rfl)) dX7_downward_48 ⟨Nat.zero_le _, Nat.zero_le _⟩)) (fun r_48 hr_48 => ?_)
      subst hr_48
      refine lv_lconst (v := 1) hx hb dX7_downward_51 (by decide) ?_
      refine lv_lsub hx hb dX7_downward_52 ?_
      refine lv_iconst (v := 0) hx hb dX7_downward_53 (by decide) ?_
      refine vp_callSl (va_Run.run (va_runV (As := [.int (nI k), .long ((f_X7_rank k x1) - (1 : Int64)), .int (0 : Int32)]) (rest := []) ⟨hx, hb, hml, hown, hts⟩ (c_X7_ofRank l o r k h_k ((f_X7_rank k x1) - (1 : Int64)) (0 : Int32)) (cwV 3 hts (gV iX7_ofRank (zin__r23 (.methodLink RX7 136 yX7_ofRank) (List.mem_of_getElem? (i := 3) rfl))) rfl rfl rfl (by decide +kernel) ⟨Nat.le_of_ble_eq_true rfl, Nat.le_of_ble_eq_true rfl⟩) ⟨fun a U g mk q => ⟨q.1, mU_bl q.2⟩, (mU_rv hm), fun U hU hW => ⟨rfl, mU_mv hm hU hW⟩⟩ rfl rfl hl.1 rfl (lv_room (Nat.le_of_ble_eq_true rfl)) dX7_downward_54 ⟨Nat.zero_le _, Nat.zero_le _⟩)) (fun r_54 hr_54 => ?_)
      subst hr_54
      exact W.lret hx hb hr (fun t ht hW => ⟨_, rfl, hf.symm, ht⟩) (fun q hq => absurd hq List.not_mem_nil) dX7_downward_57
    · have c_36 : (f_X7_rank k x1) = (-(kinf k)) := (lg_cmp_eq (f_X7_rank k x1) (-(kinf k))).mp c_36
      have hf : f_X7_downward k x1 = x1 := hf.trans (if_pos c_36)
      refine lv_lload_n hx hb dX7_downward_39 rfl (lv_at hl 2 rfl) ?_
      refine lv_goto (tgt := 57) hx hb dX7_downward_40 (by decide) ?_
      exact W.lret hx hb hr (fun t ht hW => ⟨_, rfl, hf.symm, ht⟩) (fun q hq => absurd hq List.not_mem_nil) dX7_downward_57
  · have hf : f_X7_downward k x1 = (f_X7_signed k (kinf k) (1 : Int32)) := hf.trans (if_neg c_6)
    refine lv_aload_n hx hb dX7_downward_9 rfl (lv_at hl 0 rfl) ?_
    refine lv_iload_n hx hb dX7_downward_10 rfl (lv_at hl 1 rfl) ?_
    refine lv_aload_n hx hb dX7_downward_11 rfl (lv_at hl 0 rfl) ?_
    refine vk_getf hx hb (mE_INFINITE hm) va_S.rf hown (hts _ (zin__r2 (.fieldLink RX7 31 "ReckonBenchModel" "INFINITE" "[J") (List.mem_of_getElem? (i := 18) rfl))) (fun _ h9 => h9) dX7_downward_12 ?_
    refine lv_iload_n hx hb dX7_downward_15 rfl (lv_at hl 1 rfl) ?_
    refine va_tl hx hb (mT_INFINITE hm) va_S.rf (kin h_k) (v := .long (kinf k)) (kev (fun j => Value.long (kinf j)) h_k) dX7_downward_16 ?_
    refine lv_iconst (v := 1) hx hb dX7_downward_17 (by decide) ?_
    refine vp_callSl (va_Run.run (va_runV (As := [.int (nI k), .long (kinf k), .int (1 : Int32)]) (rest := []) ⟨hx, hb, hml, hown, hts⟩ (c_X7_signed l o r k h_k (kinf k) (1 : Int32)) (cwV 3 hts (gV iX7_signed (zin__r10 (.methodLink RX7 111 yX7_signed) (List.mem_of_getElem? (i := 5) rfl))) rfl rfl rfl (by decide +kernel) ⟨Nat.le_of_ble_eq_true rfl, Nat.le_of_ble_eq_true rfl⟩) ⟨fun a U g mk q => ⟨q.1, mU_bl q.2⟩, (mU_rv hm), fun U hU hW => ⟨rfl, mU_mv hm hU hW⟩⟩ rfl rfl hl.1 rfl (lv_room (Nat.le_of_ble_eq_true rfl)) dX7_downward_18 ⟨Nat.zero_le _, Nat.zero_le _⟩)) (fun r_18 hr_18 => ?_)
    subst hr_18
    exact W.lret hx hb hr (fun t ht hW => ⟨_, rfl, hf.symm, ht⟩) (fun q hq => absurd hq List.not_mem_nil) dX7_downward_21
def f_X7_upward_1 (k : Nat) (x1 : Int64) : Int64 := if (f_X7_rank k x1) = (kinf k) then x1 else (f_X7_ofRank k ((f_X7_rank k x1) + (1 : Int64)) (1 : Int32))
def f_X7_upward_2 (k : Nat) (x1 : Int64) : Int64 := if (f_X7_none k x1) = 0 then (f_X7_upward_1 k x1) else (kinf k)
def f_X7_upward (k : Nat) (x1 : Int64) : Int64 := (f_X7_upward_2 k x1)
def zX7_upward : List Cond := .code yX7_upward cX7_upward 4 (some .long) :: zall
theorem iX7_upward : MWv RX7 yX7_upward (.code yX7_upward cX7_upward 4 (some .long)) := ⟨(zin__r31 (.instanceMethod yX7_upward) (List.mem_of_getElem? (i := 0) rfl)), (zin__r31 (.selects RX7 yX7_upward yX7_upward) (List.mem_of_getElem? (i := 1) rfl)), (zin__r1 (.initialized RX7) (List.mem_of_getElem? (i := 5) rfl)), (zin__r31 (.code yX7_upward cX7_upward 4 (some .long)) (List.mem_of_getElem? (i := 2) rfl))⟩
set_option maxHeartbeats 4000000 in
set_option maxRecDepth 100000 in
theorem c_X7_upward (l : Launch) (o : Nat) (r : Nat → Nat) (k : Nat) (h_k : k < 2) (x1 : Int64) : Met l yX7_upward zX7_upward ({ frames := 2, cells := 0, slots := 0, locals := 48 }) (va_Pc [.ref o, .int (nI k), .long x1] (fun U => mU o r U)) (vp_Sl (fun r => r = f_X7_upward k x1)) 0 0 (fun _ => False) := by
  refine Met.ofW (cc := cX7_upward) (maxL := 4) (ret := (some .long)) (by decide) rfl ?_
  intro p e s m args below meth c s₁ B hml hv
  obtain ⟨rfl, hm⟩ := hv
  have hx := B.exec
  have hb := B.bytes
  have hr := B.returns
  have hts : ∀ w ∈ zall, w.before _ s = true := fun w h => atoms_spec (ws := zX7_upward) B.pre w (List.mem_cons_of_mem _ h)
  have hown : s.vm.findClass RX7 = some m.cls := findClass_of_methodNamed B.named
  have hlocks := B.notSynchronized
  have hl := lv_entry ([.ref o, .int (nI k), .long x1]) (n := 4) (Nat.le_of_ble_eq_true rfl)
  rw [lg_entry_eq]
  generalize (lg_sl ([.ref o, .int (nI k), .long x1]) ++ List.replicate (4 - (lg_sl ([.ref o, .int (nI k), .long x1])).length) Slot.unset).toArray = ls at hl ⊢
  have hl : lv_has ls 4 [(0, .ref o), (1, .int (nI k)), (2, .long x1)] := hl
  have hf : f_X7_upward k x1 = (f_X7_upward_2 k x1) := rfl
  refine lv_aload_n hx hb dX7_upward_0 rfl (lv_at hl 0 rfl) ?_
  refine lv_iload_n hx hb dX7_upward_1 rfl (lv_at hl 1 rfl) ?_
  refine lv_lload_n hx hb dX7_upward_2 rfl (lv_at hl 2 rfl) ?_
  refine vp_callSi (va_Run.run (va_runV (As := [.int (nI k), .long x1]) (rest := []) ⟨hx, hb, hml, hown, hts⟩ (c_X7_none l o r k h_k x1) (cwV 2 hts (gV iX7_none (zin__r7 (.methodLink RX7 98 yX7_none) (List.mem_of_getElem? (i := 17) rfl))) rfl rfl rfl (by decide +kernel) ⟨Nat.le_of_ble_eq_true rfl, Nat.le_of_ble_eq_true rfl⟩) ⟨fun a U g mk q => ⟨q.1, mU_bl q.2⟩, (mU_rv hm), fun U hU hW => ⟨rfl, mU_mv hm hU hW⟩⟩ rfl rfl hl.1 rfl (lv_room (Nat.le_of_ble_eq_true rfl)) dX7_upward_3 ⟨Nat.zero_le _, Nat.zero_le _⟩)) (fun r_3 hr_3 => ?_)
  subst hr_3
  refine lv_if_eq (tgt := 16) hx hb dX7_upward_6 (by decide) (fun c_6 => ?_) (fun c_6 => ?_)
  · have hf : f_X7_upward k x1 = (f_X7_upward_1 k x1) := hf.trans (if_pos c_6)
    refine lv_aload_n hx hb dX7_upward_16 rfl (lv_at hl 0 rfl) ?_
    refine lv_iload_n hx hb dX7_upward_17 rfl (lv_at hl 1 rfl) ?_
    refine lv_lload_n hx hb dX7_upward_18 rfl (lv_at hl 2 rfl) ?_
    refine vp_callSl (va_Run.run (va_runV (As := [.int (nI k), .long x1]) (rest := []) ⟨hx, hb, hml, hown, hts⟩ (c_X7_rank l o r k h_k x1) (cwV 2 hts (gV iX7_rank (zin__r14 (.methodLink RX7 133 yX7_rank) (List.mem_of_getElem? (i := 11) rfl))) rfl rfl rfl (by decide +kernel) ⟨Nat.le_of_ble_eq_true rfl, Nat.le_of_ble_eq_true rfl⟩) ⟨fun a U g mk q => ⟨q.1, mU_bl q.2⟩, (mU_rv hm), fun U hU hW => ⟨rfl, mU_mv hm hU hW⟩⟩ rfl rfl hl.1 rfl (lv_room (Nat.le_of_ble_eq_true rfl)) dX7_upward_19 ⟨Nat.zero_le _, Nat.zero_le _⟩)) (fun r_19 hr_19 => ?_)
    subst hr_19
    refine lv_aload_n hx hb dX7_upward_22 rfl (lv_at hl 0 rfl) ?_
    refine vk_getf hx hb (mE_INFINITE hm) va_S.rf hown (hts _ (zin__r2 (.fieldLink RX7 31 "ReckonBenchModel" "INFINITE" "[J") (List.mem_of_getElem? (i := 18) rfl))) (fun _ h9 => h9) dX7_upward_23 ?_
    refine lv_iload_n hx hb dX7_upward_26 rfl (lv_at hl 1 rfl) ?_
    refine va_tl hx hb (mT_INFINITE hm) va_S.rf (kin h_k) (v := .long (kinf k)) (kev (fun j => Value.long (kinf j)) h_k) dX7_upward_27 ?_
    refine W.lcmp hx hb dX7_upward_28 ?_
    refine lv_if_ne (tgt := 36) hx hb dX7_upward_29 (by decide) (fun c_29 => ?_) (fun c_29 => ?_)
    · have c_29 : ¬ ((f_X7_rank k x1) = (kinf k)) := fun h9 => c_29 ((lg_cmp_eq (f_X7_rank k x1) (kinf k)).mpr h9)
      have hf : f_X7_upward k x1 = (f_X7_ofRank k ((f_X7_rank k x1) + (1 : Int64)) (1 : Int32)) := hf.trans (if_neg c_29)
      refine lv_aload_n hx hb dX7_upward_36 rfl (lv_at hl 0 rfl) ?_
      refine lv_iload_n hx hb dX7_upward_37 rfl (lv_at hl 1 rfl) ?_
      refine lv_aload_n hx hb dX7_upward_38 rfl (lv_at hl 0 rfl) ?_
      refine lv_iload_n hx hb dX7_upward_39 rfl (lv_at hl 1 rfl) ?_
      refine lv_lload_n hx hb dX7_upward_40 rfl (lv_at hl 2 rfl) ?_
      refine vp_callSl (va_Run.run (va_runV (As := [.int (nI k), .long x1]) (rest := [.int (nI k), .ref o]) ⟨hx, hb, hml, hown, hts⟩ (c_X7_rank l o r k h_k x1) (cwV 2 hts (gV iX7_rank (zin__r14 (.methodLink RX7 133 yX7_rank) (List.mem_of_getElem? (i := 11) rfl))) rfl rfl rfl (by decide +kernel) ⟨Nat.le_of_ble_eq_true rfl, Nat.le_of_ble_eq_true rfl⟩) ⟨fun a U g mk q => ⟨q.1, mU_bl q.2⟩, (mU_rv hm), fun U hU hW => ⟨rfl, mU_mv hm hU hW⟩⟩ rfl rfl hl.1 rfl (lv_room (Nat.le_of_ble_eq_true rfl)) dX7_upward_41 ⟨Nat.zero_le _, Nat.zero_le _⟩)) (fun r_41 hr_41 => ?_)
      subst hr_41
      refine lv_lconst (v := 1) hx hb dX7_upward_44 (by decide) ?_
      refine lv_ladd hx hb dX7_upward_45 ?_
      refine lv_iconst (v := 1) hx hb dX7_upward_46 (by decide) ?_
      refine vp_callSl (va_Run.run (va_runV (As := [.int (nI k), .long ((f_X7_rank k x1) + (1 : Int64)), .int (1 : Int32)]) (rest := []) ⟨hx, hb, hml, hown, hts⟩ (c_X7_ofRank l o r k h_k ((f_X7_rank k x1) + (1 : Int64)) (1 : Int32)) (cwV 3 hts (gV iX7_ofRank (zin__r23 (.methodLink RX7 136 yX7_ofRank) (List.mem_of_getElem? (i := 3) rfl))) rfl rfl rfl (by decide +kernel) ⟨Nat.le_of_ble_eq_true rfl, Nat.le_of_ble_eq_true rfl⟩) ⟨fun a U g mk q => ⟨q.1, mU_bl q.2⟩, (mU_rv hm), fun U hU hW => ⟨rfl, mU_mv hm hU hW⟩⟩ rfl rfl hl.1 rfl (lv_room (Nat.le_of_ble_eq_true rfl)) dX7_upward_47 ⟨Nat.zero_le _, Nat.zero_le _⟩)) (fun r_47 hr_47 => ?_)
      subst hr_47
      exact W.lret hx hb hr (fun t ht hW => ⟨_, rfl, hf.symm, ht⟩) (fun q hq => absurd hq List.not_mem_nil) dX7_upward_50
    · have c_29 : (f_X7_rank k x1) = (kinf k) := (lg_cmp_eq (f_X7_rank k x1) (kinf k)).mp c_29
      have hf : f_X7_upward k x1 = x1 := hf.trans (if_pos c_29)
      refine lv_lload_n hx hb dX7_upward_32 rfl (lv_at hl 2 rfl) ?_
      refine lv_goto (tgt := 50) hx hb dX7_upward_33 (by decide) ?_
      exact W.lret hx hb hr (fun t ht hW => ⟨_, rfl, hf.symm, ht⟩) (fun q hq => absurd hq List.not_mem_nil) dX7_upward_50
  · have hf : f_X7_upward k x1 = (kinf k) := hf.trans (if_neg c_6)
    refine lv_aload_n hx hb dX7_upward_9 rfl (lv_at hl 0 rfl) ?_
    refine vk_getf hx hb (mE_INFINITE hm) va_S.rf hown (hts _ (zin__r2 (.fieldLink RX7 31 "ReckonBenchModel" "INFINITE" "[J") (List.mem_of_getElem? (i := 18) rfl))) (fun _ h9 => h9) dX7_upward_10 ?_
    refine lv_iload_n hx hb dX7_upward_13 rfl (lv_at hl 1 rfl) ?_
    refine va_tl hx hb (mT_INFINITE hm) va_S.rf (kin h_k) (v := .long (kinf k)) (kev (fun j => Value.long (kinf j)) h_k) dX7_upward_14 ?_
    exact W.lret hx hb hr (fun t ht hW => ⟨_, rfl, hf.symm, ht⟩) (fun q hq => absurd hq List.not_mem_nil) dX7_upward_15
def f_X7_behind_1 (k : Nat) (x2 : Int64) (x3 : Int64) : Int32 := if 0 ≤ (f_X7_order k x2 x3) then (0 : Int32) else (1 : Int32)
def f_X7_behind_2 (k : Nat) (x2 : Int64) (x3 : Int64) : Int32 := if (f_X7_order k x2 x3) ≤ 0 then (0 : Int32) else (1 : Int32)
def f_X7_behind_3 (k : Nat) (x1 : Int32) (x2 : Int64) (x3 : Int64) : Int32 := if x1 = 0 then (f_X7_behind_2 k x2 x3) else (f_X7_behind_1 k x2 x3)
def f_X7_behind_4 (k : Nat) (w_1 : Int64) (w_2 : Int64) : Int32 := if (f_X7_order k w_1 w_2) ≤ 0 then (0 : Int32) else (1 : Int32)
def f_X7_behind_5 (k : Nat) (x3 : Int64) (w_1 : Int64) : Int32 := if (f_X7_none k x3) = 0 then (f_X7_behind_4 k w_1 (f_X7_unsigned k x3)) else (f_X7_behind_4 k w_1 x3)
def f_X7_behind_6 (k : Nat) (x2 : Int64) (x3 : Int64) : Int32 := if (f_X7_none k x2) = 0 then (f_X7_behind_5 k x3 (f_X7_unsigned k x2)) else (f_X7_behind_5 k x3 x2)
def f_X7_behind_7 (k : Nat) (x1 : Int32) (x2 : Int64) (x3 : Int64) : Int32 := if x1 = (2 : Int32) then (f_X7_behind_6 k x2 x3) else (f_X7_behind_3 k x1 x2 x3)
def f_X7_behind (k : Nat) (x1 : Int32) (x2 : Int64) (x3 : Int64) : Int32 := (f_X7_behind_7 k x1 x2 x3)
def zX7_behind : List Cond := .code yX7_behind cX7_behind 7 (some .boolean) :: zall
theorem iX7_behind : MWv RX7 yX7_behind (.code yX7_behind cX7_behind 7 (some .boolean)) := ⟨(zin__r17 (.instanceMethod yX7_behind) (List.mem_of_getElem? (i := 8) rfl)), (zin__r17 (.selects RX7 yX7_behind yX7_behind) (List.mem_of_getElem? (i := 9) rfl)), (zin__r1 (.initialized RX7) (List.mem_of_getElem? (i := 5) rfl)), (zin__r17 (.code yX7_behind cX7_behind 7 (some .boolean)) (List.mem_of_getElem? (i := 10) rfl))⟩
set_option maxHeartbeats 4000000 in
set_option maxRecDepth 100000 in
theorem c_X7_behind (l : Launch) (o : Nat) (r : Nat → Nat) (k : Nat) (h_k : k < 2) (x1 : Int32) (x2 : Int64) (x3 : Int64) : Met l yX7_behind zX7_behind ({ frames := 3, cells := 0, slots := 0, locals := 71 }) (va_Pc [.ref o, .int (nI k), .int x1, .long x2, .long x3] (fun U => mU o r U)) (vp_Si (fun r => r = f_X7_behind k x1 x2 x3)) 0 0 (fun _ => False) := by
  refine Met.ofW (cc := cX7_behind) (maxL := 7) (ret := (some .boolean)) (by decide) rfl ?_
  intro p e s m args below meth c s₁ B hml hv
  obtain ⟨rfl, hm⟩ := hv
  have hx := B.exec
  have hb := B.bytes
  have hr := B.returns
  have hts : ∀ w ∈ zall, w.before _ s = true := fun w h => atoms_spec (ws := zX7_behind) B.pre w (List.mem_cons_of_mem _ h)
  have hown : s.vm.findClass RX7 = some m.cls := findClass_of_methodNamed B.named
  have hlocks := B.notSynchronized
  have hl := lv_entry ([.ref o, .int (nI k), .int x1, .long x2, .long x3]) (n := 7) (Nat.le_of_ble_eq_true rfl)
  rw [lg_entry_eq]
  generalize (lg_sl ([.ref o, .int (nI k), .int x1, .long x2, .long x3]) ++ List.replicate (7 - (lg_sl ([.ref o, .int (nI k), .int x1, .long x2, .long x3])).length) Slot.unset).toArray = ls at hl ⊢
  have hl : lv_has ls 7 [(0, .ref o), (1, .int (nI k)), (2, .int x1), (3, .long x2), (5, .long x3)] := hl
  have hf : f_X7_behind k x1 x2 x3 = (f_X7_behind_7 k x1 x2 x3) := rfl
  refine lv_iload_n hx hb dX7_behind_0 rfl (lv_at hl 2 rfl) ?_
  refine lv_iconst (v := 2) hx hb dX7_behind_1 (by decide) ?_
  refine lv_icmp_ne (tgt := 60) hx hb dX7_behind_2 (by decide) (fun c_2 => ?_) (fun c_2 => ?_)
  · have hf : f_X7_behind k x1 x2 x3 = (f_X7_behind_3 k x1 x2 x3) := hf.trans (if_neg c_2)
    refine lv_iload_n hx hb dX7_behind_60 rfl (lv_at hl 2 rfl) ?_
    refine lv_if_ne (tgt := 83) hx hb dX7_behind_61 (by decide) (fun c_61 => ?_) (fun c_61 => ?_)
    · have hf : f_X7_behind k x1 x2 x3 = (f_X7_behind_1 k x2 x3) := hf.trans (if_neg c_61)
      refine lv_aload_n hx hb dX7_behind_83 rfl (lv_at hl 0 rfl) ?_
      refine lv_iload_n hx hb dX7_behind_84 rfl (lv_at hl 1 rfl) ?_
      refine lv_lload_n hx hb dX7_behind_85 rfl (lv_at hl 3 rfl) ?_
      refine lv_lload hx hb dX7_behind_86 (lv_at hl 4 rfl) ?_
      refine vp_callSi (va_Run.run (va_runV (As := [.int (nI k), .long x2, .long x3]) (rest := []) ⟨hx, hb, hml, hown, hts⟩ (c_X7_order l o r k h_k x2 x3) (cwV 3 hts (gV iX7_order (zin__r15 (.methodLink RX7 171 yX7_order) (List.mem_of_getElem? (i := 15) rfl))) rfl rfl rfl (by decide +kernel) ⟨Nat.le_of_ble_eq_true rfl, Nat.le_of_ble_eq_true rfl⟩) ⟨fun a U g mk q => ⟨q.1, mU_bl q.2⟩, (mU_rv hm), fun U hU hW => ⟨rfl, mU_mv hm hU hW⟩⟩ rfl rfl hl.1 rfl (lv_room (Nat.le_of_ble_eq_true rfl)) dX7_behind_88 ⟨Nat.zero_le _, Nat.zero_le _⟩)) (fun r_88 hr_88 => ?_)
      subst hr_88
      refine lv_if_ge (tgt := 98) hx hb dX7_behind_91 (by decide) (fun c_91 => ?_) (fun c_91 => ?_)
      · have hf : f_X7_behind k x1 x2 x3 = (0 : Int32) := hf.trans (if_pos c_91)
        refine lv_iconst (v := 0) hx hb dX7_behind_98 (by decide) ?_
        exact W.zret hx hb hr rfl (fun t ht hW => ⟨_, rfl, hf.symm, ht⟩) (fun q hq => absurd hq List.not_mem_nil) dX7_behind_99
      · have hf : f_X7_behind k x1 x2 x3 = (1 : Int32) := hf.trans (if_neg c_91)
        refine lv_iconst (v := 1) hx hb dX7_behind_94 (by decide) ?_
        refine lv_goto (tgt := 99) hx hb dX7_behind_95 (by decide) ?_
        exact W.zret hx hb hr rfl (fun t ht hW => ⟨_, rfl, hf.symm, ht⟩) (fun q hq => absurd hq List.not_mem_nil) dX7_behind_99
    · have hf : f_X7_behind k x1 x2 x3 = (f_X7_behind_2 k x2 x3) := hf.trans (if_pos c_61)
      refine lv_aload_n hx hb dX7_behind_64 rfl (lv_at hl 0 rfl) ?_
      refine lv_iload_n hx hb dX7_behind_65 rfl (lv_at hl 1 rfl) ?_
      refine lv_lload_n hx hb dX7_behind_66 rfl (lv_at hl 3 rfl) ?_
      refine lv_lload hx hb dX7_behind_67 (lv_at hl 4 rfl) ?_
      refine vp_callSi (va_Run.run (va_runV (As := [.int (nI k), .long x2, .long x3]) (rest := []) ⟨hx, hb, hml, hown, hts⟩ (c_X7_order l o r k h_k x2 x3) (cwV 3 hts (gV iX7_order (zin__r15 (.methodLink RX7 171 yX7_order) (List.mem_of_getElem? (i := 15) rfl))) rfl rfl rfl (by decide +kernel) ⟨Nat.le_of_ble_eq_true rfl, Nat.le_of_ble_eq_true rfl⟩) ⟨fun a U g mk q => ⟨q.1, mU_bl q.2⟩, (mU_rv hm), fun U hU hW => ⟨rfl, mU_mv hm hU hW⟩⟩ rfl rfl hl.1 rfl (lv_room (Nat.le_of_ble_eq_true rfl)) dX7_behind_69 ⟨Nat.zero_le _, Nat.zero_le _⟩)) (fun r_69 hr_69 => ?_)
      subst hr_69
      refine lv_if_le (tgt := 79) hx hb dX7_behind_72 (by decide) (fun c_72 => ?_) (fun c_72 => ?_)
      · have hf : f_X7_behind k x1 x2 x3 = (0 : Int32) := hf.trans (if_pos c_72)
        refine lv_iconst (v := 0) hx hb dX7_behind_79 (by decide) ?_
        refine lv_goto (tgt := 99) hx hb dX7_behind_80 (by decide) ?_
        exact W.zret hx hb hr rfl (fun t ht hW => ⟨_, rfl, hf.symm, ht⟩) (fun q hq => absurd hq List.not_mem_nil) dX7_behind_99
      · have hf : f_X7_behind k x1 x2 x3 = (1 : Int32) := hf.trans (if_neg c_72)
        refine lv_iconst (v := 1) hx hb dX7_behind_75 (by decide) ?_
        refine lv_goto (tgt := 99) hx hb dX7_behind_76 (by decide) ?_
        exact W.zret hx hb hr rfl (fun t ht hW => ⟨_, rfl, hf.symm, ht⟩) (fun q hq => absurd hq List.not_mem_nil) dX7_behind_99
  · have hf : f_X7_behind k x1 x2 x3 = (f_X7_behind_6 k x2 x3) := hf.trans (if_pos c_2)
    refine lv_aload_n hx hb dX7_behind_5 rfl (lv_at hl 0 rfl) ?_
    refine lv_iload_n hx hb dX7_behind_6 rfl (lv_at hl 1 rfl) ?_
    refine lv_aload_n hx hb dX7_behind_7 rfl (lv_at hl 0 rfl) ?_
    refine lv_iload_n hx hb dX7_behind_8 rfl (lv_at hl 1 rfl) ?_
    refine lv_lload_n hx hb dX7_behind_9 rfl (lv_at hl 3 rfl) ?_
    refine vp_callSi (va_Run.run (va_runV (As := [.int (nI k), .long x2]) (rest := [.int (nI k), .ref o]) ⟨hx, hb, hml, hown, hts⟩ (c_X7_none l o r k h_k x2) (cwV 2 hts (gV iX7_none (zin__r7 (.methodLink RX7 98 yX7_none) (List.mem_of_getElem? (i := 17) rfl))) rfl rfl rfl (by decide +kernel) ⟨Nat.le_of_ble_eq_true rfl, Nat.le_of_ble_eq_true rfl⟩) ⟨fun a U g mk q => ⟨q.1, mU_bl q.2⟩, (mU_rv hm), fun U hU hW => ⟨rfl, mU_mv hm hU hW⟩⟩ rfl rfl hl.1 rfl (lv_room (Nat.le_of_ble_eq_true rfl)) dX7_behind_10 ⟨Nat.zero_le _, Nat.zero_le _⟩)) (fun r_10 hr_10 => ?_)
    subst hr_10
    refine W_cut (α := Int64) (pcJ := 26) (nL := 7) (fun v => f_X7_behind k x1 x2 x3 = (f_X7_behind_5 k x3 v)) (fun v => [.long v, .int (nI k), .ref o]) (fun v => [(0, .ref o), (1, .int (nI k)), (5, .long x3)]) (fun w_1 ls hf hl => ?_) (fun K_26 => ?_)
    · have hf : f_X7_behind k x1 x2 x3 = (f_X7_behind_5 k x3 w_1) := hf
      have hl : lv_has ls 7 [(0, .ref o), (1, .int (nI k)), (5, .long x3)] := hl
      refine lv_aload_n hx hb dX7_behind_26 rfl (lv_at hl 0 rfl) ?_
      refine lv_iload_n hx hb dX7_behind_27 rfl (lv_at hl 1 rfl) ?_
      refine lv_lload hx hb dX7_behind_28 (lv_at hl 2 rfl) ?_
      refine vp_callSi (va_Run.run (va_runV (As := [.int (nI k), .long x3]) (rest := [.long w_1, .int (nI k), .ref o]) ⟨hx, hb, hml, hown, hts⟩ (c_X7_none l o r k h_k x3) (cwV 2 hts (gV iX7_none (zin__r7 (.methodLink RX7 98 yX7_none) (List.mem_of_getElem? (i := 17) rfl))) rfl rfl rfl (by decide +kernel) ⟨Nat.le_of_ble_eq_true rfl, Nat.le_of_ble_eq_true rfl⟩) ⟨fun a U g mk q => ⟨q.1, mU_bl q.2⟩, (mU_rv hm), fun U hU hW => ⟨rfl, mU_mv hm hU hW⟩⟩ rfl rfl hl.1 rfl (lv_room (Nat.le_of_ble_eq_true rfl)) dX7_behind_30 ⟨Nat.zero_le _, Nat.zero_le _⟩)) (fun r_30 hr_30 => ?_)
      subst hr_30
      refine W_cut (α := Int64) (pcJ := 48) (nL := 7) (fun v => f_X7_behind k x1 x2 x3 = (f_X7_behind_4 k w_1 v)) (fun v => [.long v, .long w_1, .int (nI k), .ref o]) (fun v => []) (fun w_2 ls hf hl => ?_) (fun K_48 => ?_)
      · have hf : f_X7_behind k x1 x2 x3 = (f_X7_behind_4 k w_1 w_2) := hf
        have hl : lv_has ls 7 [] := hl
        refine vp_callSi (va_Run.run (va_runV (As := [.int (nI k), .long w_1, .long w_2]) (rest := []) ⟨hx, hb, hml, hown, hts⟩ (c_X7_order l o r k h_k w_1 w_2) (cwV 3 hts (gV iX7_order (zin__r15 (.methodLink RX7 171 yX7_order) (List.mem_of_getElem? (i := 15) rfl))) rfl rfl rfl (by decide +kernel) ⟨Nat.le_of_ble_eq_true rfl, Nat.le_of_ble_eq_true rfl⟩) ⟨fun a U g mk q => ⟨q.1, mU_bl q.2⟩, (mU_rv hm), fun U hU hW => ⟨rfl, mU_mv hm hU hW⟩⟩ rfl rfl hl.1 rfl (lv_room (Nat.le_of_ble_eq_true rfl)) dX7_behind_48 ⟨Nat.zero_le _, Nat.zero_le _⟩)) (fun r_48 hr_48 => ?_)
        subst hr_48
        refine lv_if_le (tgt := 58) hx hb dX7_behind_51 (by decide) (fun c_51 => ?_) (fun c_51 => ?_)
        · have hf : f_X7_behind k x1 x2 x3 = (0 : Int32) := hf.trans (if_pos c_51)
          refine lv_iconst (v := 0) hx hb dX7_behind_58 (by decide) ?_
          exact W.zret hx hb hr rfl (fun t ht hW => ⟨_, rfl, hf.symm, ht⟩) (fun q hq => absurd hq List.not_mem_nil) dX7_behind_59
        · have hf : f_X7_behind k x1 x2 x3 = (1 : Int32) := hf.trans (if_neg c_51)
          refine lv_iconst (v := 1) hx hb dX7_behind_54 (by decide) ?_
          refine lv_goto (tgt := 59) hx hb dX7_behind_55 (by decide) ?_
          exact W.zret hx hb hr rfl (fun t ht hW => ⟨_, rfl, hf.symm, ht⟩) (fun q hq => absurd hq List.not_mem_nil) dX7_behind_59
      refine lv_if_eq (tgt := 41) hx hb dX7_behind_33 (by decide) (fun c_33 => ?_) (fun c_33 => ?_)
      · have hf : f_X7_behind k x1 x2 x3 = (f_X7_behind_4 k w_1 (f_X7_unsigned k x3)) := hf.trans (if_pos c_33)
        refine lv_aload_n hx hb dX7_behind_41 rfl (lv_at hl 0 rfl) ?_
        refine lv_iload_n hx hb dX7_behind_42 rfl (lv_at hl 1 rfl) ?_
        refine lv_lload hx hb dX7_behind_43 (lv_at hl 2 rfl) ?_
        refine vp_callSl (va_Run.run (va_runV (As := [.int (nI k), .long x3]) (rest := [.long w_1, .int (nI k), .ref o]) ⟨hx, hb, hml, hown, hts⟩ (c_X7_unsigned l o r k h_k x3) (cwV 2 hts (gV iX7_unsigned (zin__r7 (.methodLink RX7 94 yX7_unsigned) (List.mem_of_getElem? (i := 4) rfl))) rfl rfl rfl (by decide +kernel) ⟨Nat.le_of_ble_eq_true rfl, Nat.le_of_ble_eq_true rfl⟩) ⟨fun a U g mk q => ⟨q.1, mU_bl q.2⟩, (mU_rv hm), fun U hU hW => ⟨rfl, mU_mv hm hU hW⟩⟩ rfl rfl hl.1 rfl (lv_room (Nat.le_of_ble_eq_true rfl)) dX7_behind_45 ⟨Nat.zero_le _, Nat.zero_le _⟩)) (fun r_45 hr_45 => ?_)
        subst hr_45
        exact K_48 (f_X7_unsigned k x3) ls hf (lv_sub hl [] rfl)
      · have hf : f_X7_behind k x1 x2 x3 = (f_X7_behind_4 k w_1 x3) := hf.trans (if_neg c_33)
        refine lv_lload hx hb dX7_behind_36 (lv_at hl 2 rfl) ?_
        refine lv_goto (tgt := 48) hx hb dX7_behind_38 (by decide) ?_
        exact K_48 x3 ls hf (lv_sub hl [] rfl)
    refine lv_if_eq (tgt := 20) hx hb dX7_behind_13 (by decide) (fun c_13 => ?_) (fun c_13 => ?_)
    · have hf : f_X7_behind k x1 x2 x3 = (f_X7_behind_5 k x3 (f_X7_unsigned k x2)) := hf.trans (if_pos c_13)
      refine lv_aload_n hx hb dX7_behind_20 rfl (lv_at hl 0 rfl) ?_
      refine lv_iload_n hx hb dX7_behind_21 rfl (lv_at hl 1 rfl) ?_
      refine lv_lload_n hx hb dX7_behind_22 rfl (lv_at hl 3 rfl) ?_
      refine vp_callSl (va_Run.run (va_runV (As := [.int (nI k), .long x2]) (rest := [.int (nI k), .ref o]) ⟨hx, hb, hml, hown, hts⟩ (c_X7_unsigned l o r k h_k x2) (cwV 2 hts (gV iX7_unsigned (zin__r7 (.methodLink RX7 94 yX7_unsigned) (List.mem_of_getElem? (i := 4) rfl))) rfl rfl rfl (by decide +kernel) ⟨Nat.le_of_ble_eq_true rfl, Nat.le_of_ble_eq_true rfl⟩) ⟨fun a U g mk q => ⟨q.1, mU_bl q.2⟩, (mU_rv hm), fun U hU hW => ⟨rfl, mU_mv hm hU hW⟩⟩ rfl rfl hl.1 rfl (lv_room (Nat.le_of_ble_eq_true rfl)) dX7_behind_23 ⟨Nat.zero_le _, Nat.zero_le _⟩)) (fun r_23 hr_23 => ?_)
      subst hr_23
      exact K_26 (f_X7_unsigned k x2) ls hf (lv_sub hl [0, 1, 4] rfl)
    · have hf : f_X7_behind k x1 x2 x3 = (f_X7_behind_5 k x3 x2) := hf.trans (if_neg c_13)
      refine lv_lload_n hx hb dX7_behind_16 rfl (lv_at hl 3 rfl) ?_
      refine lv_goto (tgt := 26) hx hb dX7_behind_17 (by decide) ?_
      exact K_26 x2 ls hf (lv_sub hl [0, 1, 4] rfl)
