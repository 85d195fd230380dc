def f_X7_power_1 (k : Nat) (q7 : Int32) (q8 : Int64) (rec_49 : Int32 → Int64 → Int32) : Int32 := if (jlshr q8 (kfb k)) = (0 : Int64) then (rec_49 (q7 + (-1 : Int32)) (jlshl q8 (1 : Int32))) else q7
def f_X7_power_L49 (k : Nat) : Nat → Int32 → Int64 → Int32
  | 0, _, _ => 0
  | n + 1, q7, q8 => (f_X7_power_1 k q7 q8 (f_X7_power_L49 k n))
def f_X7_power_3 (k : Nat) (v4_1 : Int64) (v6_2 : Int32) : Int32 := if v6_2 ≤ 0 then (f_X7_power_L49 k 64 (klow k) v4_1) else (((klow k) + v6_2) - (1 : Int32))
def f_X7_power_4 (k : Nat) (v4_1 : Int64) : Int32 := (f_X7_power_3 k v4_1 (((jlshr v4_1 (kfb k))).toInt32))
def f_X7_power (k : Nat) (x1 : Int64) : Int32 := (f_X7_power_4 k (f_X7_unsigned k x1))
def zX7_power : List Cond := .code yX7_power cX7_power 10 (some .int) :: zall
theorem iX7_power : MWv RX7 yX7_power (.code yX7_power cX7_power 10 (some .int)) := ⟨(zin__r13 (.instanceMethod yX7_power) (List.mem_of_getElem? (i := 0) rfl)), (zin__r13 (.selects RX7 yX7_power yX7_power) (List.mem_of_getElem? (i := 1) rfl)), (zin__r1 (.initialized RX7) (List.mem_of_getElem? (i := 5) rfl)), (zin__r13 (.code yX7_power cX7_power 10 (some .int)) (List.mem_of_getElem? (i := 2) rfl))⟩
set_option maxHeartbeats 4000000 in
set_option maxRecDepth 100000 in
theorem c_X7_power (l : Launch) (o : Nat) (r : Nat → Nat) (k : Nat) (h_k : k < 2) (x1 : Int64) (hz : 0 < (f_X7_unsigned k x1).toInt ∧ f_X7_unsigned k x1 ≤ kinf k) : Met l yX7_power zX7_power ({ frames := 1, cells := 0, slots := 0, locals := 23 }) (va_Pc [.ref o, .int (nI k), .long x1] (fun U => mU o r U)) (vp_Si (fun r => r = f_X7_power k x1)) 0 0 (fun _ => False) := by
  refine Met.ofW (cc := cX7_power) (maxL := 10) (ret := (some .int)) (by decide) rfl ?_
  intro p e s m args below meth c s₁ B hml hv
  obtain ⟨rfl, hm⟩ := hv
  have hx := B.exec
  have hb := B.bytes
  have hr := B.returns
  have hts : ∀ w ∈ zall, w.before _ s = true := fun w h => atoms_spec (ws := zX7_power) B.pre w (List.mem_cons_of_mem _ h)
  have hown : s.vm.findClass RX7 = some m.cls := findClass_of_methodNamed B.named
  have hlocks := B.notSynchronized
  have hl := lv_entry ([.ref o, .int (nI k), .long x1]) (n := 10) (Nat.le_of_ble_eq_true rfl)
  rw [lg_entry_eq]
  generalize (lg_sl ([.ref o, .int (nI k), .long x1]) ++ List.replicate (10 - (lg_sl ([.ref o, .int (nI k), .long x1])).length) Slot.unset).toArray = ls at hl ⊢
  have hl : lv_has ls 10 [(0, .ref o), (1, .int (nI k)), (2, .long x1)] := hl
  have hf : f_X7_power k x1 = (f_X7_power_4 k (f_X7_unsigned k x1)) := rfl
  refine lv_aload_n hx hb dX7_power_0 rfl (lv_at hl 0 rfl) ?_
  refine lv_iload_n hx hb dX7_power_1 rfl (lv_at hl 1 rfl) ?_
  refine lv_lload_n hx hb dX7_power_2 rfl (lv_at hl 2 rfl) ?_
  refine vp_callSl (va_Run.run (va_runV (As := [.int (nI k), .long x1]) (rest := []) ⟨hx, hb, hml, hown, hts⟩ (c_X7_unsigned l o r k h_k x1) (cwV 2 hts (gV iX7_unsigned (zin__r7 (.methodLink RX7 94 yX7_unsigned) (List.mem_of_getElem? (i := 4) rfl))) rfl rfl rfl (by decide +kernel) ⟨Nat.le_of_ble_eq_true rfl, Nat.le_of_ble_eq_true rfl⟩) ⟨fun a U g mk q => ⟨q.1, mU_bl q.2⟩, (mU_rv hm), fun U hU hW => ⟨rfl, mU_mv hm hU hW⟩⟩ rfl rfl hl.1 rfl (lv_room (Nat.le_of_ble_eq_true rfl)) dX7_power_3 ⟨Nat.zero_le _, Nat.zero_le _⟩)) (fun r_3 hr_3 => ?_)
  subst hr_3
  refine lv_topl (fun v4_1 e_v4_1 => ?_)
  have hf : f_X7_power k x1 = (f_X7_power_4 k v4_1) := hf.trans (congrArg (fun z => (f_X7_power_4 k z)) e_v4_1.symm)
  refine lv_lstore (lv' := [(4, .long v4_1), (0, .ref o), (1, .int (nI k)), (2, .long x1)]) hx hb dX7_power_6 hl (by decide) rfl (fun ls hl => ?_)
  refine lv_lload hx hb dX7_power_8 (lv_at hl 0 rfl) ?_
  refine lv_aload_n hx hb dX7_power_10 rfl (lv_at hl 1 rfl) ?_
  refine vk_getf hx hb (mE_FRACTION hm) va_S.rf hown (hts _ (zin__r2 (.fieldLink RX7 7 "ReckonBenchModel" "FRACTION" "[I") (List.mem_of_getElem? (i := 10) rfl))) (fun _ h9 => h9) dX7_power_11 ?_
  refine lv_iload_n hx hb dX7_power_14 rfl (lv_at hl 2 rfl) ?_
  refine va_ti hx hb (mT_FRACTION hm) va_S.rf (kin h_k) (v := .int (kfb k)) (kev (fun j => Value.int (kfb j)) h_k) dX7_power_15 ?_
  refine lv_lshr (v := (jlshr v4_1 (kfb k))) hx hb dX7_power_16 rfl ?_
  refine lv_l2i (v := (((jlshr v4_1 (kfb k))).toInt32)) hx hb dX7_power_17 rfl ?_
  refine lv_topi (fun v6_2 e_v6_2 => ?_)
  have hf : f_X7_power k x1 = (f_X7_power_3 k v4_1 v6_2) := hf.trans (congrArg (fun z => (f_X7_power_3 k v4_1 z)) e_v6_2.symm)
  refine lv_istore (lv' := [(6, .int v6_2), (4, .long v4_1), (0, .ref o), (1, .int (nI k)), (2, .long x1)]) hx hb dX7_power_18 hl (by decide) rfl (fun ls hl => ?_)
  refine lv_iload hx hb dX7_power_20 (lv_at hl 0 rfl) ?_
  refine lv_if_le (tgt := 37) hx hb dX7_power_22 (by decide) (fun c_22 => ?_) (fun c_22 => ?_)
  · have hf : f_X7_power k x1 = (f_X7_power_L49 k 64 (klow k) v4_1) := hf.trans (if_pos c_22)
    refine lv_aload_n hx hb dX7_power_37 rfl (lv_at hl 2 rfl) ?_
    refine vk_getf hx hb (mE_LEAST hm) va_S.rf hown (hts _ (zin__r2 (.fieldLink RX7 13 "ReckonBenchModel" "LEAST" "[I") (List.mem_of_getElem? (i := 11) rfl))) (fun _ h9 => h9) dX7_power_38 ?_
    refine lv_iload_n hx hb dX7_power_41 rfl (lv_at hl 3 rfl) ?_
    refine va_ti hx hb (mT_LEAST hm) va_S.rf (kin h_k) (v := .int (klow k)) (kev (fun j => Value.int (klow j)) h_k) dX7_power_42 ?_
    refine lv_topi (fun v7_3 e_v7_3 => ?_)
    have hf : f_X7_power k x1 = (f_X7_power_L49 k 64 v7_3 v4_1) := hf.trans (congrArg (fun z => (f_X7_power_L49 k 64 z v4_1)) e_v7_3.symm)
    refine lv_istore (lv' := [(7, .int v7_3), (6, .int v6_2), (4, .long v4_1), (0, .ref o), (1, .int (nI k)), (2, .long x1)]) hx hb dX7_power_43 hl (by decide) rfl (fun ls hl => ?_)
    refine lv_lload hx hb dX7_power_45 (lv_at hl 2 rfl) ?_
    refine lv_lstore (lv' := [(8, .long v4_1), (7, .int v7_3), (6, .int v6_2), (4, .long v4_1), (0, .ref o), (1, .int (nI k)), (2, .long x1)]) hx hb dX7_power_47 hl (by decide) rfl (fun ls hl => ?_)
    refine W_loop (α := Int32 × Int64) (pcJ := 49) (nL := 10) (fun n v => f_X7_power k x1 = f_X7_power_L49 k n v.1 v.2 ∧ (0 < v.2.toInt ∧ v.2.toInt < 9007199254740992 ∧ 9007199254740992 ≤ v.2.toInt * 2 ^ n)) (fun v => []) (fun v => [(0, .ref o), (1, .int (nI k)), (7, .int v.1), (8, .long v.2)]) (fun v hC => ?_) (fun n_49 ih_49 v ls hC hl => ?_) 64 (v7_3, v4_1) ls ⟨hf, (by rw [e_v6_2] at c_22; rw [e_v4_1] at c_22 ⊢; exact pw_init h_k hz c_22)⟩ (lv_sub hl [4, 5, 1, 0] rfl)
    · obtain ⟨q7, q8⟩ := v
      have hI : (0 < q8.toInt ∧ q8.toInt < 9007199254740992 ∧ 9007199254740992 ≤ q8.toInt * 2 ^ (0 : Nat)) := hC.2
      exact pw_zero hI
    · obtain ⟨q7, q8⟩ := v
      obtain ⟨hf, hI⟩ : (f_X7_power k x1 = f_X7_power_L49 k (n_49 + 1) q7 q8) ∧ (0 < q8.toInt ∧ q8.toInt < 9007199254740992 ∧ 9007199254740992 ≤ q8.toInt * 2 ^ (Nat.succ n_49)) := hC
      obtain ⟨rec_49, hrec_49⟩ : ∃ z, z = f_X7_power_L49 k n_49 := ⟨_, rfl⟩
      have hf : f_X7_power k x1 = (f_X7_power_1 k q7 q8 rec_49) := by rw [hrec_49]; exact hf
      have hl : lv_has ls 10 [(0, .ref o), (1, .int (nI k)), (7, .int q7), (8, .long q8)] := hl
      refine lv_lload hx hb dX7_power_49 (lv_at hl 3 rfl) ?_
      refine lv_aload_n hx hb dX7_power_51 rfl (lv_at hl 0 rfl) ?_
      refine vk_getf hx hb (mE_FRACTION hm) va_S.rf hown (hts _ (zin__r2 (.fieldLink RX7 7 "ReckonBenchModel" "FRACTION" "[I") (List.mem_of_getElem? (i := 10) rfl))) (fun _ h9 => h9) dX7_power_52 ?_
      refine lv_iload_n hx hb dX7_power_55 rfl (lv_at hl 1 rfl) ?_
      refine va_ti hx hb (mT_FRACTION hm) va_S.rf (kin h_k) (v := .int (kfb k)) (kev (fun j => Value.int (kfb j)) h_k) dX7_power_56 ?_
      refine lv_lshr (v := (jlshr q8 (kfb k))) hx hb dX7_power_57 rfl ?_
      refine lv_lconst (v := 0) hx hb dX7_power_58 (by decide) ?_
      refine W.lcmp hx hb dX7_power_59 ?_
      refine lv_if_ne (tgt := 75) hx hb dX7_power_60 (by decide) (fun c_60 => ?_) (fun c_60 => ?_)
      · have c_60 : ¬ ((jlshr q8 (kfb k)) = (0 : Int64)) := fun h9 => c_60 ((lg_cmp_eq (jlshr q8 (kfb k)) (0 : Int64)).mpr h9)
        have hf : f_X7_power k x1 = q7 := hf.trans (if_neg c_60)
        refine lv_iload hx hb dX7_power_75 (lv_at hl 2 rfl) ?_
        exact W.iret hx hb hr (fun t ht hW => ⟨_, rfl, hf.symm, ht⟩) (fun q hq => absurd hq List.not_mem_nil) dX7_power_77
      · have c_60 : (jlshr q8 (kfb k)) = (0 : Int64) := (lg_cmp_eq (jlshr q8 (kfb k)) (0 : Int64)).mp c_60
        have hf : f_X7_power k x1 = (rec_49 (q7 + (-1 : Int32)) (jlshl q8 (1 : Int32))) := hf.trans (if_pos c_60)
        obtain ⟨v7_4, e_v7_4⟩ : ∃ y : Int32, y = (q7 + (-1 : Int32)) := ⟨_, rfl⟩
        refine lv_iinc (v := v7_4) (lv' := [(7, .int v7_4), (0, .ref o), (1, .int (nI k)), (8, .long q8)]) hx hb dX7_power_63 hl (k := 2) rfl (by rw [e_v7_4]; rfl) (by decide) rfl (fun ls hl => ?_)
        have hf : f_X7_power k x1 = (rec_49 v7_4 (jlshl q8 (1 : Int32))) := hf.trans (congrArg (fun z => (rec_49 z (jlshl q8 (1 : Int32)))) e_v7_4.symm)
        refine lv_lload hx hb dX7_power_66 (lv_at hl 3 rfl) ?_
        refine lv_iconst (v := 1) hx hb dX7_power_68 (by decide) ?_
        refine lv_lshl (v := (jlshl q8 (1 : Int32))) hx hb dX7_power_69 rfl ?_
        refine lv_topl (fun v8_5 e_v8_5 => ?_)
        have hf : f_X7_power k x1 = (rec_49 v7_4 v8_5) := hf.trans (congrArg (fun z => (rec_49 v7_4 z)) e_v8_5.symm)
        refine lv_lstore (lv' := [(8, .long v8_5), (7, .int v7_4), (0, .ref o), (1, .int (nI k))]) hx hb dX7_power_70 hl (by decide) rfl (fun ls hl => ?_)
        refine lv_goto (tgt := 49) hx hb dX7_power_72 (by decide) ?_
        exact ih_49 (v7_4, v8_5) ls ⟨hf.trans (congrFun (congrFun hrec_49 _) _), (by rw [e_v8_5]; exact pw_step h_k hI c_60)⟩ (lv_sub hl [2, 3, 1, 0] rfl)
  · have hf : f_X7_power k x1 = (((klow k) + v6_2) - (1 : Int32)) := hf.trans (if_neg c_22)
    refine lv_aload_n hx hb dX7_power_25 rfl (lv_at hl 2 rfl) ?_
    refine vk_getf hx hb (mE_LEAST hm) va_S.rf hown (hts _ (zin__r2 (.fieldLink RX7 13 "ReckonBenchModel" "LEAST" "[I") (List.mem_of_getElem? (i := 11) rfl))) (fun _ h9 => h9) dX7_power_26 ?_
    refine lv_iload_n hx hb dX7_power_29 rfl (lv_at hl 3 rfl) ?_
    refine va_ti hx hb (mT_LEAST hm) va_S.rf (kin h_k) (v := .int (klow k)) (kev (fun j => Value.int (klow j)) h_k) dX7_power_30 ?_
    refine lv_iload hx hb dX7_power_31 (lv_at hl 0 rfl) ?_
    refine lv_iadd hx hb dX7_power_33 ?_
    refine lv_iconst (v := 1) hx hb dX7_power_34 (by decide) ?_
    refine lv_isub hx hb dX7_power_35 ?_
    exact W.iret hx hb hr (fun t ht hW => ⟨_, rfl, hf.symm, ht⟩) (fun q hq => absurd hq List.not_mem_nil) dX7_power_36
def f_X7_mantissa_1 (v6_2 : Int64) (q8 : Int64) (rec_41 : Int64 → Int64) : Int64 := if v6_2 ≤ q8 then q8 else (rec_41 (jlshl q8 (1 : Int32)))
def f_X7_mantissa_L41 (v6_2 : Int64) : Nat → Int64 → Int64
  | 0, _ => 0
  | n + 1, q8 => (f_X7_mantissa_1 v6_2 q8 (f_X7_mantissa_L41 v6_2 n))
def f_X7_mantissa_3 (v4_1 : Int64) (v6_2 : Int64) : Int64 := if v4_1 < v6_2 then (f_X7_mantissa_L41 v6_2 64 v4_1) else ((v4_1 &&& (v6_2 - (1 : Int64))) ||| v6_2)
def f_X7_mantissa (k : Nat) (x1 : Int64) : Int64 := (f_X7_mantissa_3 (f_X7_unsigned k x1) (jlshl (1 : Int64) (kfb k)))
def zX7_mantissa : List Cond := .code yX7_mantissa cX7_mantissa 10 (some .long) :: zall
theorem iX7_mantissa : MWv RX7 yX7_mantissa (.code yX7_mantissa cX7_mantissa 10 (some .long)) := ⟨(zin__r13 (.instanceMethod yX7_mantissa) (List.mem_of_getElem? (i := 4) rfl)), (zin__r13 (.selects RX7 yX7_mantissa yX7_mantissa) (List.mem_of_getElem? (i := 5) rfl)), (zin__r1 (.initialized RX7) (List.mem_of_getElem? (i := 5) rfl)), (zin__r13 (.code yX7_mantissa cX7_mantissa 10 (some .long)) (List.mem_of_getElem? (i := 6) rfl))⟩
set_option maxHeartbeats 4000000 in
set_option maxRecDepth 100000 in
theorem c_X7_mantissa (l : Launch) (o : Nat) (r : Nat → Nat) (k : Nat) (h_k : k < 2) (x1 : Int64) (hz : 0 < (f_X7_unsigned k x1).toInt ∧ f_X7_unsigned k x1 ≤ kinf k) : Met l yX7_mantissa zX7_mantissa ({ frames := 1, cells := 0, slots := 0, locals := 23 }) (va_Pc [.ref o, .int (nI k), .long x1] (fun U => mU o r U)) (vp_Sl (fun r => r = f_X7_mantissa k x1)) 0 0 (fun _ => False) := by
  refine Met.ofW (cc := cX7_mantissa) (maxL := 10) (ret := (some .long)) (by decide) rfl ?_
  intro p e s m args below meth c s₁ B hml hv
  obtain ⟨rfl, hm⟩ := hv
  have hx := B.exec
  have hb := B.bytes
  have hr := B.returns
  have hts : ∀ w ∈ zall, w.before _ s = true := fun w h => atoms_spec (ws := zX7_mantissa) B.pre w (List.mem_cons_of_mem _ h)
  have hown : s.vm.findClass RX7 = some m.cls := findClass_of_methodNamed B.named
  have hlocks := B.notSynchronized
  have hl := lv_entry ([.ref o, .int (nI k), .long x1]) (n := 10) (Nat.le_of_ble_eq_true rfl)
  rw [lg_entry_eq]
  generalize (lg_sl ([.ref o, .int (nI k), .long x1]) ++ List.replicate (10 - (lg_sl ([.ref o, .int (nI k), .long x1])).length) Slot.unset).toArray = ls at hl ⊢
  have hl : lv_has ls 10 [(0, .ref o), (1, .int (nI k)), (2, .long x1)] := hl
  have hf : f_X7_mantissa k x1 = (f_X7_mantissa_3 (f_X7_unsigned k x1) (jlshl (1 : Int64) (kfb k))) := rfl
  refine lv_aload_n hx hb dX7_mantissa_0 rfl (lv_at hl 0 rfl) ?_
  refine lv_iload_n hx hb dX7_mantissa_1 rfl (lv_at hl 1 rfl) ?_
  refine lv_lload_n hx hb dX7_mantissa_2 rfl (lv_at hl 2 rfl) ?_
  refine vp_callSl (va_Run.run (va_runV (As := [.int (nI k), .long x1]) (rest := []) ⟨hx, hb, hml, hown, hts⟩ (c_X7_unsigned l o r k h_k x1) (cwV 2 hts (gV iX7_unsigned (zin__r7 (.methodLink RX7 94 yX7_unsigned) (List.mem_of_getElem? (i := 4) rfl))) rfl rfl rfl (by decide +kernel) ⟨Nat.le_of_ble_eq_true rfl, Nat.le_of_ble_eq_true rfl⟩) ⟨fun a U g mk q => ⟨q.1, mU_bl q.2⟩, (mU_rv hm), fun U hU hW => ⟨rfl, mU_mv hm hU hW⟩⟩ rfl rfl hl.1 rfl (lv_room (Nat.le_of_ble_eq_true rfl)) dX7_mantissa_3 ⟨Nat.zero_le _, Nat.zero_le _⟩)) (fun r_3 hr_3 => ?_)
  subst hr_3
  refine lv_topl (fun v4_1 e_v4_1 => ?_)
  have hf : f_X7_mantissa k x1 = (f_X7_mantissa_3 v4_1 (jlshl (1 : Int64) (kfb k))) := hf.trans (congrArg (fun z => (f_X7_mantissa_3 z (jlshl (1 : Int64) (kfb k)))) e_v4_1.symm)
  refine lv_lstore (lv' := [(4, .long v4_1), (0, .ref o), (1, .int (nI k)), (2, .long x1)]) hx hb dX7_mantissa_6 hl (by decide) rfl (fun ls hl => ?_)
  refine lv_lconst (v := 1) hx hb dX7_mantissa_8 (by decide) ?_
  refine lv_aload_n hx hb dX7_mantissa_9 rfl (lv_at hl 1 rfl) ?_
  refine vk_getf hx hb (mE_FRACTION hm) va_S.rf hown (hts _ (zin__r2 (.fieldLink RX7 7 "ReckonBenchModel" "FRACTION" "[I") (List.mem_of_getElem? (i := 10) rfl))) (fun _ h9 => h9) dX7_mantissa_10 ?_
  refine lv_iload_n hx hb dX7_mantissa_13 rfl (lv_at hl 2 rfl) ?_
  refine va_ti hx hb (mT_FRACTION hm) va_S.rf (kin h_k) (v := .int (kfb k)) (kev (fun j => Value.int (kfb j)) h_k) dX7_mantissa_14 ?_
  refine lv_lshl (v := (jlshl (1 : Int64) (kfb k))) hx hb dX7_mantissa_15 rfl ?_
  refine lv_topl (fun v6_2 e_v6_2 => ?_)
  have hf : f_X7_mantissa k x1 = (f_X7_mantissa_3 v4_1 v6_2) := hf.trans (congrArg (fun z => (f_X7_mantissa_3 v4_1 z)) e_v6_2.symm)
  refine lv_lstore (lv' := [(6, .long v6_2), (4, .long v4_1), (0, .ref o), (1, .int (nI k)), (2, .long x1)]) hx hb dX7_mantissa_16 hl (by decide) rfl (fun ls hl => ?_)
  refine lv_lload hx hb dX7_mantissa_18 (lv_at hl 1 rfl) ?_
  refine lv_lload hx hb dX7_mantissa_20 (lv_at hl 0 rfl) ?_
  refine W.lcmp hx hb dX7_mantissa_22 ?_
  refine lv_if_lt (tgt := 37) hx hb dX7_mantissa_23 (by decide) (fun c_23 => ?_) (fun c_23 => ?_)
  · have c_23 : v4_1 < v6_2 := (lg_cmp_lt v4_1 v6_2).mp c_23
    have hf : f_X7_mantissa k x1 = (f_X7_mantissa_L41 v6_2 64 v4_1) := hf.trans (if_pos c_23)
    refine lv_lload hx hb dX7_mantissa_37 (lv_at hl 1 rfl) ?_
    refine lv_lstore (lv' := [(8, .long v4_1), (6, .long v6_2), (4, .long v4_1), (0, .ref o), (1, .int (nI k)), (2, .long x1)]) hx hb dX7_mantissa_39 hl (by decide) rfl (fun ls hl => ?_)
    refine W_loop (α := Int64) (pcJ := 41) (nL := 10) (fun n v => f_X7_mantissa k x1 = f_X7_mantissa_L41 v6_2 n v ∧ (0 < v.toInt ∧ v.toInt < 9007199254740992 ∧ 9007199254740992 ≤ v.toInt * 2 ^ n)) (fun v => []) (fun v => [(6, .long v6_2), (8, .long v)]) (fun q8 hC => ?_) (fun n_41 ih_41 q8 ls hC hl => ?_) 64 v4_1 ls ⟨hf, (by rw [e_v4_1] at c_23 ⊢; rw [e_v6_2] at c_23; exact mn_init h_k hz c_23)⟩ (lv_sub hl [1, 0] rfl)
    · skip
      have hI : (0 < q8.toInt ∧ q8.toInt < 9007199254740992 ∧ 9007199254740992 ≤ q8.toInt * 2 ^ (0 : Nat)) := hC.2
      exact pw_zero hI
    · skip
      obtain ⟨hf, hI⟩ : (f_X7_mantissa k x1 = f_X7_mantissa_L41 v6_2 (n_41 + 1) q8) ∧ (0 < q8.toInt ∧ q8.toInt < 9007199254740992 ∧ 9007199254740992 ≤ q8.toInt * 2 ^ (Nat.succ n_41)) := hC
      obtain ⟨rec_41, hrec_41⟩ : ∃ z, z = f_X7_mantissa_L41 v6_2 n_41 := ⟨_, rfl⟩
      have hf : f_X7_mantissa k x1 = (f_X7_mantissa_1 v6_2 q8 rec_41) := by rw [hrec_41]; exact hf
      have hl : lv_has ls 10 [(6, .long v6_2), (8, .long q8)] := hl
      refine lv_lload hx hb dX7_mantissa_41 (lv_at hl 1 rfl) ?_
      refine lv_lload hx hb dX7_mantissa_43 (lv_at hl 0 rfl) ?_
      refine W.lcmp hx hb dX7_mantissa_45 ?_
      refine lv_if_ge (tgt := 58) hx hb dX7_mantissa_46 (by decide) (fun c_46 => ?_) (fun c_46 => ?_)
      · have c_46 : v6_2 ≤ q8 := (lg_cmp_ge q8 v6_2).mp c_46
        have hf : f_X7_mantissa k x1 = q8 := hf.trans (if_pos c_46)
        refine lv_lload hx hb dX7_mantissa_58 (lv_at hl 1 rfl) ?_
        exact W.lret hx hb hr (fun t ht hW => ⟨_, rfl, hf.symm, ht⟩) (fun q hq => absurd hq List.not_mem_nil) dX7_mantissa_60
      · have c_46 : ¬ (v6_2 ≤ q8) := fun h9 => c_46 ((lg_cmp_ge q8 v6_2).mpr h9)
        have hf : f_X7_mantissa k x1 = (rec_41 (jlshl q8 (1 : Int32))) := hf.trans (if_neg c_46)
        refine lv_lload hx hb dX7_mantissa_49 (lv_at hl 1 rfl) ?_
        refine lv_iconst (v := 1) hx hb dX7_mantissa_51 (by decide) ?_
        refine lv_lshl (v := (jlshl q8 (1 : Int32))) hx hb dX7_mantissa_52 rfl ?_
        refine lv_topl (fun v8_3 e_v8_3 => ?_)
        have hf : f_X7_mantissa k x1 = (rec_41 v8_3) := hf.trans (congrArg (fun z => (rec_41 z)) e_v8_3.symm)
        refine lv_lstore (lv' := [(8, .long v8_3), (6, .long v6_2)]) hx hb dX7_mantissa_53 hl (by decide) rfl (fun ls hl => ?_)
        refine lv_goto (tgt := 41) hx hb dX7_mantissa_55 (by decide) ?_
        exact ih_41 v8_3 ls ⟨hf.trans (congrFun hrec_41 _), (by rw [e_v8_3]; rw [e_v6_2] at c_46; exact mn_step h_k hI c_46)⟩ (lv_sub hl [1, 0] rfl)
  · have c_23 : ¬ (v4_1 < v6_2) := fun h9 => c_23 ((lg_cmp_lt v4_1 v6_2).mpr h9)
    have hf : f_X7_mantissa k x1 = ((v4_1 &&& (v6_2 - (1 : Int64))) ||| v6_2) := hf.trans (if_neg c_23)
    refine lv_lload hx hb dX7_mantissa_26 (lv_at hl 1 rfl) ?_
    refine lv_lload hx hb dX7_mantissa_28 (lv_at hl 0 rfl) ?_
    refine lv_lconst (v := 1) hx hb dX7_mantissa_30 (by decide) ?_
    refine lv_lsub hx hb dX7_mantissa_31 ?_
    refine lv_land hx hb dX7_mantissa_32 ?_
    refine lv_lload hx hb dX7_mantissa_33 (lv_at hl 0 rfl) ?_
    refine lv_lor hx hb dX7_mantissa_35 ?_
    exact W.lret hx hb hr (fun t ht hW => ⟨_, rfl, hf.symm, ht⟩) (fun q hq => absurd hq List.not_mem_nil) dX7_mantissa_36
def f_X7_round_1 (k : Nat) (x1 : Int32) (v12_5 : Int64) : Int64 := if v12_5 ≤ (kinf k) then (f_X7_signed k v12_5 x1) else (f_X7_signed k (kinf k) x1)
def f_X7_round_2 (k : Nat) (x1 : Int32) (v8_2 : Int32) (v10_4 : Int64) : Int64 := (f_X7_round_1 k x1 ((jlshl (((v8_2 - (klow k))).toInt64) (kfb k)) + v10_4))
def f_X7_round_3 (k : Nat) (x1 : Int32) (v8_2 : Int32) (w_7 : Int64) : Int64 := (f_X7_round_2 k x1 v8_2 (w_7 + (1 : Int64)))
def f_X7_round_4 (k : Nat) (x1 : Int32) (v8_2 : Int32) (w_7 : Int64) : Int64 := if (w_7 &&& (1 : Int64)) = (1 : Int64) then (f_X7_round_3 k x1 v8_2 w_7) else (f_X7_round_2 k x1 v8_2 w_7)
def f_X7_round_5 (k : Nat) (x1 : Int32) (x4 : Int32) (v8_2 : Int32) (w_7 : Int64) : Int64 := if x4 = 0 then (f_X7_round_4 k x1 v8_2 w_7) else (f_X7_round_3 k x1 v8_2 w_7)
def f_X7_round_6 (k : Nat) (x1 : Int32) (x4 : Int32) (v8_2 : Int32) (w_7 : Int64) (w_8 : Int64) (v14_9 : Int64) : Int64 := if w_8 = v14_9 then (f_X7_round_5 k x1 x4 v8_2 w_7) else (f_X7_round_2 k x1 v8_2 w_7)
def f_X7_round_7 (k : Nat) (x1 : Int32) (x4 : Int32) (v8_2 : Int32) (w_7 : Int64) (w_8 : Int64) (v14_9 : Int64) : Int64 := if v14_9 < w_8 then (f_X7_round_3 k x1 v8_2 w_7) else (f_X7_round_6 k x1 x4 v8_2 w_7 w_8 v14_9)
def f_X7_round_8 (k : Nat) (x1 : Int32) (x4 : Int32) (v8_2 : Int32) (v9_3 : Int32) (w_7 : Int64) (w_8 : Int64) : Int64 := (f_X7_round_7 k x1 x4 v8_2 w_7 w_8 (jlshl (1 : Int64) (v9_3 - (1 : Int32))))
def f_X7_round_9 (k : Nat) (x1 : Int32) (x2 : Int64) (x4 : Int32) (v8_2 : Int32) (v9_3 : Int32) (w_7 : Int64) : Int64 := if v9_3 = (63 : Int32) then (f_X7_round_8 k x1 x4 v8_2 v9_3 w_7 x2) else (f_X7_round_8 k x1 x4 v8_2 v9_3 w_7 (x2 - (jlshl w_7 v9_3)))
def f_X7_round_10 (k : Nat) (x1 : Int32) (x2 : Int64) (x4 : Int32) (v8_2 : Int32) (v9_3 : Int32) : Int64 := if v9_3 = (63 : Int32) then (f_X7_round_9 k x1 x2 x4 v8_2 v9_3 (0 : Int64)) else (f_X7_round_9 k x1 x2 x4 v8_2 v9_3 (jlshr x2 v9_3))
def f_X7_round_11 (k : Nat) (x1 : Int32) (x2 : Int64) (x4 : Int32) (v8_2 : Int32) (v9_3 : Int32) : Int64 := if (63 : Int32) < v9_3 then (f_X7_round_2 k x1 v8_2 (0 : Int64)) else (f_X7_round_10 k x1 x2 x4 v8_2 v9_3)
def f_X7_round_12 (k : Nat) (x1 : Int32) (x2 : Int64) (x4 : Int32) (v8_2 : Int32) (v9_3 : Int32) : Int64 := if 0 < v9_3 then (f_X7_round_11 k x1 x2 x4 v8_2 v9_3) else (f_X7_round_2 k x1 v8_2 (jlshl x2 (-v9_3)))
def f_X7_round_13 (k : Nat) (x1 : Int32) (x2 : Int64) (x3 : Int32) (x4 : Int32) (v8_2 : Int32) : Int64 := if (v8_2 - (klow k)) < ((ktop k) - (1 : Int32)) then (f_X7_round_12 k x1 x2 x4 v8_2 (v8_2 - x3)) else (f_X7_signed k (kinf k) x1)
def f_X7_round_14 (k : Nat) (x1 : Int32) (x2 : Int64) (x3 : Int32) (x4 : Int32) (v8_1 : Int32) : Int64 := if (klow k) ≤ v8_1 then (f_X7_round_13 k x1 x2 x3 x4 v8_1) else (f_X7_round_13 k x1 x2 x3 x4 (klow k))
def f_X7_round_15 (k : Nat) (x1 : Int32) (x2 : Int64) (x3 : Int32) (x4 : Int32) (q7 : Int32) : Int64 := (f_X7_round_14 k x1 x2 x3 x4 (((x3 + q7) - (kfb k)) - (1 : Int32)))
def f_X7_round_16 (k : Nat) (x1 : Int32) (x2 : Int64) (x3 : Int32) (x4 : Int32) (q7 : Int32) (rec_3 : Int32 → Int64) : Int64 := if (jlshr x2 q7) ≤ (0 : Int64) then (f_X7_round_15 k x1 x2 x3 x4 q7) else (rec_3 (q7 + (1 : Int32)))
def f_X7_round_17 (k : Nat) (x1 : Int32) (x2 : Int64) (x3 : Int32) (x4 : Int32) (q7 : Int32) (rec_3 : Int32 → Int64) : Int64 := if (63 : Int32) ≤ q7 then (f_X7_round_15 k x1 x2 x3 x4 q7) else (f_X7_round_16 k x1 x2 x3 x4 q7 rec_3)
def f_X7_round_L3 (k : Nat) (x1 : Int32) (x2 : Int64) (x3 : Int32) (x4 : Int32) : Nat → Int32 → Int64
  | 0, _ => 0
  | n + 1, q7 => (f_X7_round_17 k x1 x2 x3 x4 q7 (f_X7_round_L3 k x1 x2 x3 x4 n))
def f_X7_round (k : Nat) (x1 : Int32) (x2 : Int64) (x3 : Int32) (x4 : Int32) : Int64 := (f_X7_round_L3 k x1 x2 x3 x4 64 (0 : Int32))
def zX7_round : List Cond := .code yX7_round cX7_round 16 (some .long) :: zall
theorem iX7_round : MWv RX7 yX7_round (.code yX7_round cX7_round 16 (some .long)) := ⟨(zin__r10 (.instanceMethod yX7_round) (List.mem_of_getElem? (i := 2) rfl)), (zin__r10 (.selects RX7 yX7_round yX7_round) (List.mem_of_getElem? (i := 3) rfl)), (zin__r1 (.initialized RX7) (List.mem_of_getElem? (i := 5) rfl)), (zin__r10 (.code yX7_round cX7_round 16 (some .long)) (List.mem_of_getElem? (i := 4) rfl))⟩
set_option maxHeartbeats 4000000 in
set_option maxRecDepth 100000 in
theorem c_X7_round (l : Launch) (o : Nat) (r : Nat → Nat) (k : Nat) (h_k : k < 2) (x1 : Int32) (x2 : Int64) (x3 : Int32) (x4 : Int32) : Met l yX7_round zX7_round ({ frames := 1, cells := 0, slots := 0, locals := 24 }) (va_Pc [.ref o, .int (nI k), .int x1, .long x2, .int x3, .int x4] (fun U => mU o r U)) (vp_Sl (fun r => r = f_X7_round k x1 x2 x3 x4)) 0 0 (fun _ => False) := by
  refine Met.ofW (cc := cX7_round) (maxL := 16) (ret := (some .long)) (by decide) rfl ?_
  intro p e s m args below meth c s₁ B hml hv
  obtain ⟨rfl, hm⟩ := hv
  have hx := B.exec
  have hb := B.bytes
  have hr := B.returns
  have hts : ∀ w ∈ zall, w.before _ s = true := fun w h => atoms_spec (ws := zX7_round) B.pre w (List.mem_cons_of_mem _ h)
  have hown : s.vm.findClass RX7 = some m.cls := findClass_of_methodNamed B.named
  have hlocks := B.notSynchronized
  have hl := lv_entry ([.ref o, .int (nI k), .int x1, .long x2, .int x3, .int x4]) (n := 16) (Nat.le_of_ble_eq_true rfl)
  rw [lg_entry_eq]
  generalize (lg_sl ([.ref o, .int (nI k), .int x1, .long x2, .int x3, .int x4]) ++ List.replicate (16 - (lg_sl ([.ref o, .int (nI k), .int x1, .long x2, .int x3, .int x4])).length) Slot.unset).toArray = ls at hl ⊢
  have hl : lv_has ls 16 [(0, .ref o), (1, .int (nI k)), (2, .int x1), (3, .long x2), (5, .int x3), (6, .int x4)] := hl
  have hf : f_X7_round k x1 x2 x3 x4 = (f_X7_round_L3 k x1 x2 x3 x4 64 (0 : Int32)) := rfl
  refine lv_iconst (v := 0) hx hb dX7_round_0 (by decide) ?_
  refine lv_istore (lv' := [(7, .int (0 : Int32)), (0, .ref o), (1, .int (nI k)), (2, .int x1), (3, .long x2), (5, .int x3), (6, .int x4)]) hx hb dX7_round_1 hl (by decide) rfl (fun ls hl => ?_)
  refine W_loop (α := Int32) (pcJ := 3) (nL := 16) (fun n v => f_X7_round k x1 x2 x3 x4 = f_X7_round_L3 k x1 x2 x3 x4 n v ∧ (0 ≤ v.toInt ∧ v.toInt ≤ 63 ∧ 64 ≤ v.toInt + n)) (fun v => []) (fun v => [(0, .ref o), (1, .int (nI k)), (2, .int x1), (3, .long x2), (5, .int x3), (6, .int x4), (7, .int v)]) (fun q7 hC => ?_) (fun n_3 ih_3 q7 ls hC hl => ?_) 64 (0 : Int32) ls ⟨hf, (cnt_init (N := 63))⟩ (lv_sub hl [1, 2, 3, 4, 5, 6, 0] rfl)
  · skip
    have hI : (0 ≤ q7.toInt ∧ q7.toInt ≤ 63 ∧ 64 ≤ q7.toInt + (0 : Nat)) := hC.2
    omega
  · skip
    obtain ⟨hf, hI⟩ : (f_X7_round k x1 x2 x3 x4 = f_X7_round_L3 k x1 x2 x3 x4 (n_3 + 1) q7) ∧ (0 ≤ q7.toInt ∧ q7.toInt ≤ 63 ∧ 64 ≤ q7.toInt + (Nat.succ n_3)) := hC
    obtain ⟨rec_3, hrec_3⟩ : ∃ z, z = f_X7_round_L3 k x1 x2 x3 x4 n_3 := ⟨_, rfl⟩
    have hf : f_X7_round k x1 x2 x3 x4 = (f_X7_round_17 k x1 x2 x3 x4 q7 rec_3) := by rw [hrec_3]; exact hf
    have hl : lv_has ls 16 [(0, .ref o), (1, .int (nI k)), (2, .int x1), (3, .long x2), (5, .int x3), (6, .int x4), (7, .int q7)] := hl
    refine lv_iload hx hb dX7_round_3 (lv_at hl 6 rfl) ?_
    refine lv_bipush (v := 63) hx hb dX7_round_5 (by decide) ?_
    refine W_cut (α := Unit) (pcJ := 25) (nL := 16) (fun v => f_X7_round k x1 x2 x3 x4 = (f_X7_round_15 k x1 x2 x3 x4 q7)) (fun v => []) (fun v => [(0, .ref o), (1, .int (nI k)), (2, .int x1), (3, .long x2), (5, .int x3), (6, .int x4), (7, .int q7)]) (fun v ls hf hl => ?_) (fun K_25 => ?_)
    · have hf : f_X7_round k x1 x2 x3 x4 = (f_X7_round_14 k x1 x2 x3 x4 (((x3 + q7) - (kfb k)) - (1 : Int32))) := hf
      have hl : lv_has ls 16 [(0, .ref o), (1, .int (nI k)), (2, .int x1), (3, .long x2), (5, .int x3), (6, .int x4), (7, .int q7)] := hl
      refine lv_iload hx hb dX7_round_25 (lv_at hl 4 rfl) ?_
      refine lv_iload hx hb dX7_round_27 (lv_at hl 6 rfl) ?_
      refine lv_iadd hx hb dX7_round_29 ?_
      refine lv_aload_n hx hb dX7_round_30 rfl (lv_at hl 0 rfl) ?_
      refine vk_getf hx hb (mE_FRACTION hm) va_S.rf hown (hts _ (zin__r2 (.fieldLink RX7 7 "ReckonBenchModel" "FRACTION" "[I") (List.mem_of_getElem? (i := 10) rfl))) (fun _ h9 => h9) dX7_round_31 ?_
      refine lv_iload_n hx hb dX7_round_34 rfl (lv_at hl 1 rfl) ?_
      refine va_ti hx hb (mT_FRACTION hm) va_S.rf (kin h_k) (v := .int (kfb k)) (kev (fun j => Value.int (kfb j)) h_k) dX7_round_35 ?_
      refine lv_isub hx hb dX7_round_36 ?_
      refine lv_iconst (v := 1) hx hb dX7_round_37 (by decide) ?_
      refine lv_isub hx hb dX7_round_38 ?_
      refine lv_topi (fun v8_1 e_v8_1 => ?_)
      have hf : f_X7_round k x1 x2 x3 x4 = (f_X7_round_14 k x1 x2 x3 x4 v8_1) := hf.trans (congrArg (fun z => (f_X7_round_14 k x1 x2 x3 x4 z)) e_v8_1.symm)
      refine lv_istore (lv' := [(8, .int v8_1), (0, .ref o), (1, .int (nI k)), (2, .int x1), (3, .long x2), (5, .int x3), (6, .int x4), (7, .int q7)]) hx hb dX7_round_39 hl (by decide) rfl (fun ls hl => ?_)
      refine lv_iload hx hb dX7_round_41 (lv_at hl 0 rfl) ?_
      refine lv_aload_n hx hb dX7_round_43 rfl (lv_at hl 1 rfl) ?_
      refine vk_getf hx hb (mE_LEAST hm) va_S.rf hown (hts _ (zin__r2 (.fieldLink RX7 13 "ReckonBenchModel" "LEAST" "[I") (List.mem_of_getElem? (i := 11) rfl))) (fun _ h9 => h9) dX7_round_44 ?_
      refine lv_iload_n hx hb dX7_round_47 rfl (lv_at hl 2 rfl) ?_
      refine va_ti hx hb (mT_LEAST hm) va_S.rf (kin h_k) (v := .int (klow k)) (kev (fun j => Value.int (klow j)) h_k) dX7_round_48 ?_
      refine W_cut (α := Int32) (pcJ := 60) (nL := 16) (fun v => f_X7_round k x1 x2 x3 x4 = (f_X7_round_13 k x1 x2 x3 x4 v)) (fun v => []) (fun v => [(0, .ref o), (1, .int (nI k)), (2, .int x1), (3, .long x2), (5, .int x3), (6, .int x4), (8, .int v)]) (fun v8_2 ls hf hl => ?_) (fun K_60 => ?_)
      · have hf : f_X7_round k x1 x2 x3 x4 = (f_X7_round_13 k x1 x2 x3 x4 v8_2) := hf
        have hl : lv_has ls 16 [(0, .ref o), (1, .int (nI k)), (2, .int x1), (3, .long x2), (5, .int x3), (6, .int x4), (8, .int v8_2)] := hl
        refine lv_iload hx hb dX7_round_60 (lv_at hl 6 rfl) ?_
        refine lv_aload_n hx hb dX7_round_62 rfl (lv_at hl 0 rfl) ?_
        refine vk_getf hx hb (mE_LEAST hm) va_S.rf hown (hts _ (zin__r2 (.fieldLink RX7 13 "ReckonBenchModel" "LEAST" "[I") (List.mem_of_getElem? (i := 11) rfl))) (fun _ h9 => h9) dX7_round_63 ?_
        refine lv_iload_n hx hb dX7_round_66 rfl (lv_at hl 1 rfl) ?_
        refine va_ti hx hb (mT_LEAST hm) va_S.rf (kin h_k) (v := .int (klow k)) (kev (fun j => Value.int (klow j)) h_k) dX7_round_67 ?_
        refine lv_isub hx hb dX7_round_68 ?_
        refine lv_aload_n hx hb dX7_round_69 rfl (lv_at hl 0 rfl) ?_
        refine vk_getf hx hb (mE_FIELD hm) va_S.rf hown (hts _ (zin__r2 (.fieldLink RX7 16 "ReckonBenchModel" "FIELD" "[I") (List.mem_of_getElem? (i := 12) rfl))) (fun _ h9 => h9) dX7_round_70 ?_
        refine lv_iload_n hx hb dX7_round_73 rfl (lv_at hl 1 rfl) ?_
        refine va_ti hx hb (mT_FIELD hm) va_S.rf (kin h_k) (v := .int (ktop k)) (kev (fun j => Value.int (ktop j)) h_k) dX7_round_74 ?_
        refine lv_iconst (v := 1) hx hb dX7_round_75 (by decide) ?_
        refine lv_isub hx hb dX7_round_76 ?_
        refine lv_icmp_lt (tgt := 93) hx hb dX7_round_77 (by decide) (fun c_77 => ?_) (fun c_77 => ?_)
        · have hf : f_X7_round k x1 x2 x3 x4 = (f_X7_round_12 k x1 x2 x4 v8_2 (v8_2 - x3)) := hf.trans (if_pos c_77)
          refine lv_iload hx hb dX7_round_93 (lv_at hl 6 rfl) ?_
          refine lv_iload hx hb dX7_round_95 (lv_at hl 4 rfl) ?_
          refine lv_isub hx hb dX7_round_97 ?_
          refine lv_topi (fun v9_3 e_v9_3 => ?_)
          have hf : f_X7_round k x1 x2 x3 x4 = (f_X7_round_12 k x1 x2 x4 v8_2 v9_3) := hf.trans (congrArg (fun z => (f_X7_round_12 k x1 x2 x4 v8_2 z)) e_v9_3.symm)
          refine lv_istore (lv' := [(9, .int v9_3), (0, .ref o), (1, .int (nI k)), (2, .int x1), (3, .long x2), (5, .int x3), (6, .int x4), (8, .int v8_2)]) hx hb dX7_round_98 hl (by decide) rfl (fun ls hl => ?_)
          refine lv_lconst (v := 0) hx hb dX7_round_100 (by decide) ?_
          refine lv_lstore (lv' := [(10, .long (0 : Int64)), (9, .int v9_3), (0, .ref o), (1, .int (nI k)), (2, .int x1), (3, .long x2), (5, .int x3), (6, .int x4), (8, .int v8_2)]) hx hb dX7_round_101 hl (by decide) rfl (fun ls hl => ?_)
          refine lv_iload hx hb dX7_round_103 (lv_at hl 1 rfl) ?_
          refine W_cut (α := Int64) (pcJ := 206) (nL := 16) (fun v => f_X7_round k x1 x2 x3 x4 = (f_X7_round_2 k x1 v8_2 v)) (fun v => []) (fun v => [(0, .ref o), (1, .int (nI k)), (2, .int x1), (8, .int v8_2), (10, .long v)]) (fun v10_4 ls hf hl => ?_) (fun K_206 => ?_)
          · have hf : f_X7_round k x1 x2 x3 x4 = (f_X7_round_1 k x1 ((jlshl (((v8_2 - (klow k))).toInt64) (kfb k)) + v10_4)) := hf
            have hl : lv_has ls 16 [(0, .ref o), (1, .int (nI k)), (2, .int x1), (8, .int v8_2), (10, .long v10_4)] := hl
            refine lv_iload hx hb dX7_round_206 (lv_at hl 3 rfl) ?_
            refine lv_aload_n hx hb dX7_round_208 rfl (lv_at hl 0 rfl) ?_
            refine vk_getf hx hb (mE_LEAST hm) va_S.rf hown (hts _ (zin__r2 (.fieldLink RX7 13 "ReckonBenchModel" "LEAST" "[I") (List.mem_of_getElem? (i := 11) rfl))) (fun _ h9 => h9) dX7_round_209 ?_
            refine lv_iload_n hx hb dX7_round_212 rfl (lv_at hl 1 rfl) ?_
            refine va_ti hx hb (mT_LEAST hm) va_S.rf (kin h_k) (v := .int (klow k)) (kev (fun j => Value.int (klow j)) h_k) dX7_round_213 ?_
            refine lv_isub hx hb dX7_round_214 ?_
            refine lv_i2l (v := (((v8_2 - (klow k))).toInt64)) hx hb dX7_round_215 rfl ?_
            refine lv_aload_n hx hb dX7_round_216 rfl (lv_at hl 0 rfl) ?_
            refine vk_getf hx hb (mE_FRACTION hm) va_S.rf hown (hts _ (zin__r2 (.fieldLink RX7 7 "ReckonBenchModel" "FRACTION" "[I") (List.mem_of_getElem? (i := 10) rfl))) (fun _ h9 => h9) dX7_round_217 ?_
            refine lv_iload_n hx hb dX7_round_220 rfl (lv_at hl 1 rfl) ?_
            refine va_ti hx hb (mT_FRACTION hm) va_S.rf (kin h_k) (v := .int (kfb k)) (kev (fun j => Value.int (kfb j)) h_k) dX7_round_221 ?_
            refine lv_lshl (v := (jlshl (((v8_2 - (klow k))).toInt64) (kfb k))) hx hb dX7_round_222 rfl ?_
            refine lv_lload hx hb dX7_round_223 (lv_at hl 4 rfl) ?_
            refine lv_ladd hx hb dX7_round_225 ?_
            refine lv_topl (fun v12_5 e_v12_5 => ?_)
            have hf : f_X7_round k x1 x2 x3 x4 = (f_X7_round_1 k x1 v12_5) := hf.trans (congrArg (fun z => (f_X7_round_1 k x1 z)) e_v12_5.symm)
            refine lv_lstore (lv' := [(12, .long v12_5), (0, .ref o), (1, .int (nI k)), (2, .int x1), (8, .int v8_2), (10, .long v10_4)]) hx hb dX7_round_226 hl (by decide) rfl (fun ls hl => ?_)
            refine lv_aload_n hx hb dX7_round_228 rfl (lv_at hl 1 rfl) ?_
            refine lv_iload_n hx hb dX7_round_229 rfl (lv_at hl 2 rfl) ?_
            refine lv_lload hx hb dX7_round_230 (lv_at hl 0 rfl) ?_
            refine lv_aload_n hx hb dX7_round_232 rfl (lv_at hl 1 rfl) ?_
            refine vk_getf hx hb (mE_INFINITE hm) va_S.rf hown (hts _ (zin__r2 (.fieldLink RX7 31 "ReckonBenchModel" "INFINITE" "[J") (List.mem_of_getElem? (i := 18) rfl))) (fun _ h9 => h9) dX7_round_233 ?_
            refine lv_iload_n hx hb dX7_round_236 rfl (lv_at hl 2 rfl) ?_
            refine va_tl hx hb (mT_INFINITE hm) va_S.rf (kin h_k) (v := .long (kinf k)) (kev (fun j => Value.long (kinf j)) h_k) dX7_round_237 ?_
            refine W.lcmp hx hb dX7_round_238 ?_
            refine W_cut (α := Int64) (pcJ := 253) (nL := 16) (fun v => f_X7_round k x1 x2 x3 x4 = (f_X7_signed k v x1)) (fun v => [.long v, .int (nI k), .ref o]) (fun v => [(2, .int x1)]) (fun w_6 ls hf hl => ?_) (fun K_253 => ?_)
            · have hf : f_X7_round k x1 x2 x3 x4 = (f_X7_signed k w_6 x1) := hf
              have hl : lv_has ls 16 [(2, .int x1)] := hl
              refine lv_iload_n hx hb dX7_round_253 rfl (lv_at hl 0 rfl) ?_
              refine vp_callSl (va_Run.run (va_runV (As := [.int (nI k), .long w_6, .int x1]) (rest := []) ⟨hx, hb, hml, hown, hts⟩ (c_X7_signed l o r k h_k w_6 x1) (cwV 3 hts (gV iX7_signed (zin__r10 (.methodLink RX7 111 yX7_signed) (List.mem_of_getElem? (i := 5) rfl))) rfl rfl rfl (by decide +kernel) ⟨Nat.le_of_ble_eq_true rfl, Nat.le_of_ble_eq_true rfl⟩) ⟨fun a U g mk q => ⟨q.1, mU_bl q.2⟩, (mU_rv hm), fun U hU hW => ⟨rfl, mU_mv hm hU hW⟩⟩ rfl rfl hl.1 rfl (lv_room (Nat.le_of_ble_eq_true rfl)) dX7_round_254 ⟨Nat.zero_le _, Nat.zero_le _⟩)) (fun r_254 hr_254 => ?_)
              subst hr_254
              exact W.lret hx hb hr (fun t ht hW => ⟨_, rfl, hf.symm, ht⟩) (fun q hq => absurd hq List.not_mem_nil) dX7_round_257
            refine lv_if_le (tgt := 251) hx hb dX7_round_239 (by decide) (fun c_239 => ?_) (fun c_239 => ?_)
            · have c_239 : v12_5 ≤ (kinf k) := (lg_cmp_le v12_5 (kinf k)).mp c_239
              have hf : f_X7_round k x1 x2 x3 x4 = (f_X7_signed k v12_5 x1) := hf.trans (if_pos c_239)
              refine lv_lload hx hb dX7_round_251 (lv_at hl 0 rfl) ?_
              exact K_253 v12_5 ls hf (lv_sub hl [3] rfl)
            · have c_239 : ¬ (v12_5 ≤ (kinf k)) := fun h9 => c_239 ((lg_cmp_le v12_5 (kinf k)).mpr h9)
              have hf : f_X7_round k x1 x2 x3 x4 = (f_X7_signed k (kinf k) x1) := hf.trans (if_neg c_239)
              refine lv_aload_n hx hb dX7_round_242 rfl (lv_at hl 1 rfl) ?_
              refine vk_getf hx hb (mE_INFINITE hm) va_S.rf hown (hts _ (zin__r2 (.fieldLink RX7 31 "ReckonBenchModel" "INFINITE" "[J") (List.mem_of_getElem? (i := 18) rfl))) (fun _ h9 => h9) dX7_round_243 ?_
              refine lv_iload_n hx hb dX7_round_246 rfl (lv_at hl 2 rfl) ?_
              refine va_tl hx hb (mT_INFINITE hm) va_S.rf (kin h_k) (v := .long (kinf k)) (kev (fun j => Value.long (kinf j)) h_k) dX7_round_247 ?_
              refine lv_goto (tgt := 253) hx hb dX7_round_248 (by decide) ?_
              exact K_253 (kinf k) ls hf (lv_sub hl [3] rfl)
          refine lv_if_gt (tgt := 118) hx hb dX7_round_105 (by decide) (fun c_105 => ?_) (fun c_105 => ?_)
          · have hf : f_X7_round k x1 x2 x3 x4 = (f_X7_round_11 k x1 x2 x4 v8_2 v9_3) := hf.trans (if_pos c_105)
            refine lv_iload hx hb dX7_round_118 (lv_at hl 1 rfl) ?_
            refine lv_bipush (v := 63) hx hb dX7_round_120 (by decide) ?_
            refine lv_icmp_gt (tgt := 206) hx hb dX7_round_122 (by decide) (fun c_122 => ?_) (fun c_122 => ?_)
            · have hf : f_X7_round k x1 x2 x3 x4 = (f_X7_round_2 k x1 v8_2 (0 : Int64)) := hf.trans (if_pos c_122)
              exact K_206 (0 : Int64) ls hf (lv_sub hl [2, 3, 4, 8, 0] rfl)
            · have hf : f_X7_round k x1 x2 x3 x4 = (f_X7_round_10 k x1 x2 x4 v8_2 v9_3) := hf.trans (if_neg c_122)
              refine lv_iload hx hb dX7_round_125 (lv_at hl 1 rfl) ?_
              refine lv_bipush (v := 63) hx hb dX7_round_127 (by decide) ?_
              refine W_cut (α := Int64) (pcJ := 140) (nL := 16) (fun v => f_X7_round k x1 x2 x3 x4 = (f_X7_round_9 k x1 x2 x4 v8_2 v9_3 v)) (fun v => [.long v]) (fun v => [(0, .ref o), (1, .int (nI k)), (2, .int x1), (3, .long x2), (6, .int x4), (8, .int v8_2), (9, .int v9_3)]) (fun w_7 ls hf hl => ?_) (fun K_140 => ?_)
              · have hf : f_X7_round k x1 x2 x3 x4 = (f_X7_round_9 k x1 x2 x4 v8_2 v9_3 w_7) := hf
                have hl : lv_has ls 16 [(0, .ref o), (1, .int (nI k)), (2, .int x1), (3, .long x2), (6, .int x4), (8, .int v8_2), (9, .int v9_3)] := hl
                refine lv_lstore (lv' := [(10, .long w_7), (0, .ref o), (1, .int (nI k)), (2, .int x1), (3, .long x2), (6, .int x4), (8, .int v8_2), (9, .int v9_3)]) hx hb dX7_round_140 hl (by decide) rfl (fun ls hl => ?_)
                refine lv_iload hx hb dX7_round_142 (lv_at hl 7 rfl) ?_
                refine lv_bipush (v := 63) hx hb dX7_round_144 (by decide) ?_
                refine W_cut (α := Int64) (pcJ := 160) (nL := 16) (fun v => f_X7_round k x1 x2 x3 x4 = (f_X7_round_8 k x1 x4 v8_2 v9_3 w_7 v)) (fun v => [.long v]) (fun v => [(0, .ref o), (1, .int (nI k)), (2, .int x1), (6, .int x4), (8, .int v8_2), (9, .int v9_3), (10, .long w_7)]) (fun w_8 ls hf hl => ?_) (fun K_160 => ?_)
                · have hf : f_X7_round k x1 x2 x3 x4 = (f_X7_round_7 k x1 x4 v8_2 w_7 w_8 (jlshl (1 : Int64) (v9_3 - (1 : Int32)))) := hf
                  have hl : lv_has ls 16 [(0, .ref o), (1, .int (nI k)), (2, .int x1), (6, .int x4), (8, .int v8_2), (9, .int v9_3), (10, .long w_7)] := hl
                  refine lv_lstore (lv' := [(12, .long w_8), (0, .ref o), (1, .int (nI k)), (2, .int x1), (6, .int x4), (8, .int v8_2), (9, .int v9_3), (10, .long w_7)]) hx hb dX7_round_160 hl (by decide) rfl (fun ls hl => ?_)
                  refine lv_lconst (v := 1) hx hb dX7_round_162 (by decide) ?_
                  refine lv_iload hx hb dX7_round_163 (lv_at hl 6 rfl) ?_
                  refine lv_iconst (v := 1) hx hb dX7_round_165 (by decide) ?_
                  refine lv_isub hx hb dX7_round_166 ?_
                  refine lv_lshl (v := (jlshl (1 : Int64) (v9_3 - (1 : Int32)))) hx hb dX7_round_167 rfl ?_
                  refine lv_topl (fun v14_9 e_v14_9 => ?_)
                  have hf : f_X7_round k x1 x2 x3 x4 = (f_X7_round_7 k x1 x4 v8_2 w_7 w_8 v14_9) := hf.trans (congrArg (fun z => (f_X7_round_7 k x1 x4 v8_2 w_7 w_8 z)) e_v14_9.symm)
                  refine lv_lstore (lv' := [(14, .long v14_9), (12, .long w_8), (0, .ref o), (1, .int (nI k)), (2, .int x1), (6, .int x4), (8, .int v8_2), (9, .int v9_3), (10, .long w_7)]) hx hb dX7_round_168 hl (by decide) rfl (fun ls hl => ?_)
                  refine lv_lload hx hb dX7_round_170 (lv_at hl 1 rfl) ?_
                  refine lv_lload hx hb dX7_round_172 (lv_at hl 0 rfl) ?_
                  refine W.lcmp hx hb dX7_round_174 ?_
                  refine W_cut (α := Unit) (pcJ := 200) (nL := 16) (fun v => f_X7_round k x1 x2 x3 x4 = (f_X7_round_3 k x1 v8_2 w_7)) (fun v => []) (fun v => [(0, .ref o), (1, .int (nI k)), (2, .int x1), (8, .int v8_2), (10, .long w_7)]) (fun v ls hf hl => ?_) (fun K_200 => ?_)
                  · have hf : f_X7_round k x1 x2 x3 x4 = (f_X7_round_2 k x1 v8_2 (w_7 + (1 : Int64))) := hf
                    have hl : lv_has ls 16 [(0, .ref o), (1, .int (nI k)), (2, .int x1), (8, .int v8_2), (10, .long w_7)] := hl
                    refine lv_lload hx hb dX7_round_200 (lv_at hl 4 rfl) ?_
                    refine lv_lconst (v := 1) hx hb dX7_round_202 (by decide) ?_
                    refine lv_ladd hx hb dX7_round_203 ?_
                    refine lv_topl (fun v10_10 e_v10_10 => ?_)
                    have hf : f_X7_round k x1 x2 x3 x4 = (f_X7_round_2 k x1 v8_2 v10_10) := hf.trans (congrArg (fun z => (f_X7_round_2 k x1 v8_2 z)) e_v10_10.symm)
                    refine lv_lstore (lv' := [(10, .long v10_10), (0, .ref o), (1, .int (nI k)), (2, .int x1), (8, .int v8_2)]) hx hb dX7_round_204 hl (by decide) rfl (fun ls hl => ?_)
                    exact K_206 v10_10 ls hf (lv_sub hl [1, 2, 3, 4, 0] rfl)
                  refine lv_if_gt (tgt := 200) hx hb dX7_round_175 (by decide) (fun c_175 => ?_) (fun c_175 => ?_)
                  · have c_175 : v14_9 < w_8 := (lg_cmp_gt w_8 v14_9).mp c_175
                    have hf : f_X7_round k x1 x2 x3 x4 = (f_X7_round_3 k x1 v8_2 w_7) := hf.trans (if_pos c_175)
                    exact K_200 () ls hf (lv_sub hl [2, 3, 4, 6, 8] rfl)
                  · have c_175 : ¬ (v14_9 < w_8) := fun h9 => c_175 ((lg_cmp_gt w_8 v14_9).mpr h9)
                    have hf : f_X7_round k x1 x2 x3 x4 = (f_X7_round_6 k x1 x4 v8_2 w_7 w_8 v14_9) := hf.trans (if_neg c_175)
                    refine lv_lload hx hb dX7_round_178 (lv_at hl 1 rfl) ?_
                    refine lv_lload hx hb dX7_round_180 (lv_at hl 0 rfl) ?_
                    refine W.lcmp hx hb dX7_round_182 ?_
                    refine lv_if_ne (tgt := 206) hx hb dX7_round_183 (by decide) (fun c_183 => ?_) (fun c_183 => ?_)
                    · have c_183 : ¬ (w_8 = v14_9) := fun h9 => c_183 ((lg_cmp_eq w_8 v14_9).mpr h9)
                      have hf : f_X7_round k x1 x2 x3 x4 = (f_X7_round_2 k x1 v8_2 w_7) := hf.trans (if_neg c_183)
                      exact K_206 w_7 ls hf (lv_sub hl [2, 3, 4, 6, 8] rfl)
                    · have c_183 : w_8 = v14_9 := (lg_cmp_eq w_8 v14_9).mp c_183
                      have hf : f_X7_round k x1 x2 x3 x4 = (f_X7_round_5 k x1 x4 v8_2 w_7) := hf.trans (if_pos c_183)
                      refine lv_iload hx hb dX7_round_186 (lv_at hl 5 rfl) ?_
                      refine lv_if_ne (tgt := 200) hx hb dX7_round_188 (by decide) (fun c_188 => ?_) (fun c_188 => ?_)
                      · have hf : f_X7_round k x1 x2 x3 x4 = (f_X7_round_3 k x1 v8_2 w_7) := hf.trans (if_neg c_188)
                        exact K_200 () ls hf (lv_sub hl [2, 3, 4, 6, 8] rfl)
                      · have hf : f_X7_round k x1 x2 x3 x4 = (f_X7_round_4 k x1 v8_2 w_7) := hf.trans (if_pos c_188)
                        refine lv_lload hx hb dX7_round_191 (lv_at hl 8 rfl) ?_
                        refine lv_lconst (v := 1) hx hb dX7_round_193 (by decide) ?_
                        refine lv_land hx hb dX7_round_194 ?_
                        refine lv_lconst (v := 1) hx hb dX7_round_195 (by decide) ?_
                        refine W.lcmp hx hb dX7_round_196 ?_
                        refine lv_if_ne (tgt := 206) hx hb dX7_round_197 (by decide) (fun c_197 => ?_) (fun c_197 => ?_)
                        · have c_197 : ¬ ((w_7 &&& (1 : Int64)) = (1 : Int64)) := fun h9 => c_197 ((lg_cmp_eq (w_7 &&& (1 : Int64)) (1 : Int64)).mpr h9)
                          have hf : f_X7_round k x1 x2 x3 x4 = (f_X7_round_2 k x1 v8_2 w_7) := hf.trans (if_neg c_197)
                          exact K_206 w_7 ls hf (lv_sub hl [2, 3, 4, 6, 8] rfl)
                        · have c_197 : (w_7 &&& (1 : Int64)) = (1 : Int64) := (lg_cmp_eq (w_7 &&& (1 : Int64)) (1 : Int64)).mp c_197
                          have hf : f_X7_round k x1 x2 x3 x4 = (f_X7_round_3 k x1 v8_2 w_7) := hf.trans (if_pos c_197)
                          exact K_200 () ls hf (lv_sub hl [2, 3, 4, 6, 8] rfl)
                refine lv_icmp_ne (tgt := 153) hx hb dX7_round_146 (by decide) (fun c_146 => ?_) (fun c_146 => ?_)
                · have hf : f_X7_round k x1 x2 x3 x4 = (f_X7_round_8 k x1 x4 v8_2 v9_3 w_7 (x2 - (jlshl w_7 v9_3))) := hf.trans (if_neg c_146)
                  refine lv_lload_n hx hb dX7_round_153 rfl (lv_at hl 4 rfl) ?_
                  refine lv_lload hx hb dX7_round_154 (lv_at hl 0 rfl) ?_
                  refine lv_iload hx hb dX7_round_156 (lv_at hl 7 rfl) ?_
                  refine lv_lshl (v := (jlshl w_7 v9_3)) hx hb dX7_round_158 rfl ?_
                  refine lv_lsub hx hb dX7_round_159 ?_
                  exact K_160 (x2 - (jlshl w_7 v9_3)) ls hf (lv_sub hl [1, 2, 3, 5, 6, 7, 0] rfl)
                · have hf : f_X7_round k x1 x2 x3 x4 = (f_X7_round_8 k x1 x4 v8_2 v9_3 w_7 x2) := hf.trans (if_pos c_146)
                  refine lv_lload_n hx hb dX7_round_149 rfl (lv_at hl 4 rfl) ?_
                  refine lv_goto (tgt := 160) hx hb dX7_round_150 (by decide) ?_
                  exact K_160 x2 ls hf (lv_sub hl [1, 2, 3, 5, 6, 7, 0] rfl)
              refine lv_icmp_ne (tgt := 136) hx hb dX7_round_129 (by decide) (fun c_129 => ?_) (fun c_129 => ?_)
              · have hf : f_X7_round k x1 x2 x3 x4 = (f_X7_round_9 k x1 x2 x4 v8_2 v9_3 (jlshr x2 v9_3)) := hf.trans (if_neg c_129)
                refine lv_lload_n hx hb dX7_round_136 rfl (lv_at hl 5 rfl) ?_
                refine lv_iload hx hb dX7_round_137 (lv_at hl 1 rfl) ?_
                refine lv_lshr (v := (jlshr x2 v9_3)) hx hb dX7_round_139 rfl ?_
                exact K_140 (jlshr x2 v9_3) ls hf (lv_sub hl [2, 3, 4, 5, 7, 8, 1] rfl)
              · have hf : f_X7_round k x1 x2 x3 x4 = (f_X7_round_9 k x1 x2 x4 v8_2 v9_3 (0 : Int64)) := hf.trans (if_pos c_129)
                refine lv_lconst (v := 0) hx hb dX7_round_132 (by decide) ?_
                refine lv_goto (tgt := 140) hx hb dX7_round_133 (by decide) ?_
                exact K_140 (0 : Int64) ls hf (lv_sub hl [2, 3, 4, 5, 7, 8, 1] rfl)
          · have hf : f_X7_round k x1 x2 x3 x4 = (f_X7_round_2 k x1 v8_2 (jlshl x2 (-v9_3))) := hf.trans (if_neg c_105)
            refine lv_lload_n hx hb dX7_round_108 rfl (lv_at hl 5 rfl) ?_
            refine lv_iload hx hb dX7_round_109 (lv_at hl 1 rfl) ?_
            refine lv_ineg hx hb dX7_round_111 ?_
            refine lv_lshl (v := (jlshl x2 (-v9_3))) hx hb dX7_round_112 rfl ?_
            refine lv_topl (fun v10_11 e_v10_11 => ?_)
            have hf : f_X7_round k x1 x2 x3 x4 = (f_X7_round_2 k x1 v8_2 v10_11) := hf.trans (congrArg (fun z => (f_X7_round_2 k x1 v8_2 z)) e_v10_11.symm)
            refine lv_lstore (lv' := [(10, .long v10_11), (9, .int v9_3), (0, .ref o), (1, .int (nI k)), (2, .int x1), (3, .long x2), (5, .int x3), (6, .int x4), (8, .int v8_2)]) hx hb dX7_round_113 hl (by decide) rfl (fun ls hl => ?_)
            refine lv_goto (tgt := 206) hx hb dX7_round_115 (by decide) ?_
            exact K_206 v10_11 ls hf (lv_sub hl [2, 3, 4, 8, 0] rfl)
        · have hf : f_X7_round k x1 x2 x3 x4 = (f_X7_signed k (kinf k) x1) := hf.trans (if_neg c_77)
          refine lv_aload_n hx hb dX7_round_80 rfl (lv_at hl 0 rfl) ?_
          refine lv_iload_n hx hb dX7_round_81 rfl (lv_at hl 1 rfl) ?_
          refine lv_aload_n hx hb dX7_round_82 rfl (lv_at hl 0 rfl) ?_
          refine vk_getf hx hb (mE_INFINITE hm) va_S.rf hown (hts _ (zin__r2 (.fieldLink RX7 31 "ReckonBenchModel" "INFINITE" "[J") (List.mem_of_getElem? (i := 18) rfl))) (fun _ h9 => h9) dX7_round_83 ?_
          refine lv_iload_n hx hb dX7_round_86 rfl (lv_at hl 1 rfl) ?_
          refine va_tl hx hb (mT_INFINITE hm) va_S.rf (kin h_k) (v := .long (kinf k)) (kev (fun j => Value.long (kinf j)) h_k) dX7_round_87 ?_
          refine lv_iload_n hx hb dX7_round_88 rfl (lv_at hl 2 rfl) ?_
          refine vp_callSl (va_Run.run (va_runV (As := [.int (nI k), .long (kinf k), .int x1]) (rest := []) ⟨hx, hb, hml, hown, hts⟩ (c_X7_signed l o r k h_k (kinf k) x1) (cwV 3 hts (gV iX7_signed (zin__r10 (.methodLink RX7 111 yX7_signed) (List.mem_of_getElem? (i := 5) rfl))) rfl rfl rfl (by decide +kernel) ⟨Nat.le_of_ble_eq_true rfl, Nat.le_of_ble_eq_true rfl⟩) ⟨fun a U g mk q => ⟨q.1, mU_bl q.2⟩, (mU_rv hm), fun U hU hW => ⟨rfl, mU_mv hm hU hW⟩⟩ rfl rfl hl.1 rfl (lv_room (Nat.le_of_ble_eq_true rfl)) dX7_round_89 ⟨Nat.zero_le _, Nat.zero_le _⟩)) (fun r_89 hr_89 => ?_)
          subst hr_89
          exact W.lret hx hb hr (fun t ht hW => ⟨_, rfl, hf.symm, ht⟩) (fun q hq => absurd hq List.not_mem_nil) dX7_round_92
      refine lv_icmp_ge (tgt := 60) hx hb dX7_round_49 (by decide) (fun c_49 => ?_) (fun c_49 => ?_)
      · have hf : f_X7_round k x1 x2 x3 x4 = (f_X7_round_13 k x1 x2 x3 x4 v8_1) := hf.trans (if_pos c_49)
        exact K_60 v8_1 ls hf (lv_sub hl [1, 2, 3, 4, 5, 6, 0] rfl)
      · have hf : f_X7_round k x1 x2 x3 x4 = (f_X7_round_13 k x1 x2 x3 x4 (klow k)) := hf.trans (if_neg c_49)
        refine lv_aload_n hx hb dX7_round_52 rfl (lv_at hl 1 rfl) ?_
        refine vk_getf hx hb (mE_LEAST hm) va_S.rf hown (hts _ (zin__r2 (.fieldLink RX7 13 "ReckonBenchModel" "LEAST" "[I") (List.mem_of_getElem? (i := 11) rfl))) (fun _ h9 => h9) dX7_round_53 ?_
        refine lv_iload_n hx hb dX7_round_56 rfl (lv_at hl 2 rfl) ?_
        refine va_ti hx hb (mT_LEAST hm) va_S.rf (kin h_k) (v := .int (klow k)) (kev (fun j => Value.int (klow j)) h_k) dX7_round_57 ?_
        refine lv_topi (fun v8_12 e_v8_12 => ?_)
        have hf : f_X7_round k x1 x2 x3 x4 = (f_X7_round_13 k x1 x2 x3 x4 v8_12) := hf.trans (congrArg (fun z => (f_X7_round_13 k x1 x2 x3 x4 z)) e_v8_12.symm)
        refine lv_istore (lv' := [(8, .int v8_12), (0, .ref o), (1, .int (nI k)), (2, .int x1), (3, .long x2), (5, .int x3), (6, .int x4), (7, .int q7)]) hx hb dX7_round_58 hl (by decide) rfl (fun ls hl => ?_)
        exact K_60 v8_12 ls hf (lv_sub hl [1, 2, 3, 4, 5, 6, 0] rfl)
    refine lv_icmp_ge (tgt := 25) hx hb dX7_round_7 (by decide) (fun c_7 => ?_) (fun c_7 => ?_)
    · have hf : f_X7_round k x1 x2 x3 x4 = (f_X7_round_15 k x1 x2 x3 x4 q7) := hf.trans (if_pos c_7)
      exact K_25 () ls hf (lv_sub hl [0, 1, 2, 3, 4, 5, 6] rfl)
    · have hf : f_X7_round k x1 x2 x3 x4 = (f_X7_round_16 k x1 x2 x3 x4 q7 rec_3) := hf.trans (if_neg c_7)
      refine lv_lload_n hx hb dX7_round_10 rfl (lv_at hl 3 rfl) ?_
      refine lv_iload hx hb dX7_round_11 (lv_at hl 6 rfl) ?_
      refine lv_lshr (v := (jlshr x2 q7)) hx hb dX7_round_13 rfl ?_
      refine lv_lconst (v := 0) hx hb dX7_round_14 (by decide) ?_
      refine W.lcmp hx hb dX7_round_15 ?_
      refine lv_if_le (tgt := 25) hx hb dX7_round_16 (by decide) (fun c_16 => ?_) (fun c_16 => ?_)
      · have c_16 : (jlshr x2 q7) ≤ (0 : Int64) := (lg_cmp_le (jlshr x2 q7) (0 : Int64)).mp c_16
        have hf : f_X7_round k x1 x2 x3 x4 = (f_X7_round_15 k x1 x2 x3 x4 q7) := hf.trans (if_pos c_16)
        exact K_25 () ls hf (lv_sub hl [0, 1, 2, 3, 4, 5, 6] rfl)
      · have c_16 : ¬ ((jlshr x2 q7) ≤ (0 : Int64)) := fun h9 => c_16 ((lg_cmp_le (jlshr x2 q7) (0 : Int64)).mpr h9)
        have hf : f_X7_round k x1 x2 x3 x4 = (rec_3 (q7 + (1 : Int32))) := hf.trans (if_neg c_16)
        obtain ⟨v7_13, e_v7_13⟩ : ∃ y : Int32, y = (q7 + (1 : Int32)) := ⟨_, rfl⟩
        refine lv_iinc (v := v7_13) (lv' := [(7, .int v7_13), (0, .ref o), (1, .int (nI k)), (2, .int x1), (3, .long x2), (5, .int x3), (6, .int x4)]) hx hb dX7_round_19 hl (k := 6) rfl (by rw [e_v7_13]; rfl) (by decide) rfl (fun ls hl => ?_)
        have hf : f_X7_round k x1 x2 x3 x4 = (rec_3 v7_13) := hf.trans (congrArg (fun z => (rec_3 z)) e_v7_13.symm)
        refine lv_goto (tgt := 3) hx hb dX7_round_22 (by decide) ?_
        exact ih_3 v7_13 ls ⟨hf.trans (congrFun hrec_3 _), (by rw [e_v7_13]; exact cnt_step (N := 63) (by decide) hI c_7)⟩ (lv_sub hl [1, 2, 3, 4, 5, 6, 0] rfl)
