def f_J6_numberOfLeadingZeros_0f7a4_1 (v0_7 : Int32) (v1_8 : Int32) : Int32 := (v1_8 - (jiushr v0_7 (1 : Int32)))
def f_J6_numberOfLeadingZeros_0f7a4_2 (v0_5 : Int32) (v1_6 : Int32) : Int32 := if v0_5 < (4 : Int32) then (f_J6_numberOfLeadingZeros_0f7a4_1 v0_5 v1_6) else (f_J6_numberOfLeadingZeros_0f7a4_1 (jiushr v0_5 (2 : Int32)) (v1_6 + (-2 : Int32)))
def f_J6_numberOfLeadingZeros_0f7a4_3 (v0_3 : Int32) (v1_4 : Int32) : Int32 := if v0_3 < (16 : Int32) then (f_J6_numberOfLeadingZeros_0f7a4_2 v0_3 v1_4) else (f_J6_numberOfLeadingZeros_0f7a4_2 (jiushr v0_3 (4 : Int32)) (v1_4 + (-4 : Int32)))
def f_J6_numberOfLeadingZeros_0f7a4_4 (v0_1 : Int32) (v1_2 : Int32) : Int32 := if v0_1 < (256 : Int32) then (f_J6_numberOfLeadingZeros_0f7a4_3 v0_1 v1_2) else (f_J6_numberOfLeadingZeros_0f7a4_3 (jiushr v0_1 (8 : Int32)) (v1_2 + (-8 : Int32)))
def f_J6_numberOfLeadingZeros_0f7a4_5 (x0 : Int32) : Int32 := if x0 < (65536 : Int32) then (f_J6_numberOfLeadingZeros_0f7a4_4 x0 (31 : Int32)) else (f_J6_numberOfLeadingZeros_0f7a4_4 (jiushr x0 (16 : Int32)) ((31 : Int32) + (-16 : Int32)))
def f_J6_numberOfLeadingZeros_0f7a4_6 (x0 : Int32) : Int32 := if x0 = 0 then (32 : Int32) else (0 : Int32)
def f_J6_numberOfLeadingZeros_0f7a4_7 (x0 : Int32) : Int32 := if 0 < x0 then (f_J6_numberOfLeadingZeros_0f7a4_5 x0) else (f_J6_numberOfLeadingZeros_0f7a4_6 x0)
def f_J6_numberOfLeadingZeros_0f7a4 (x0 : Int32) : Int32 := (f_J6_numberOfLeadingZeros_0f7a4_7 x0)
def zJ6_numberOfLeadingZeros_0f7a4 : List Cond := .code yJ6_numberOfLeadingZeros_0f7a4 cJ6_numberOfLeadingZeros_0f7a4 2 (some .int) :: zall
theorem iJ6_numberOfLeadingZeros_0f7a4 : MWs yJ6_numberOfLeadingZeros_0f7a4 (.code yJ6_numberOfLeadingZeros_0f7a4 cJ6_numberOfLeadingZeros_0f7a4 2 (some .int)) := ⟨(zin__r10 (.static yJ6_numberOfLeadingZeros_0f7a4) (List.mem_of_getElem? (i := 0) rfl)), (zin__r10 (.initialized RJ6) (List.mem_of_getElem? (i := 1) rfl)), (zin__r10 (.code yJ6_numberOfLeadingZeros_0f7a4 cJ6_numberOfLeadingZeros_0f7a4 2 (some .int)) (List.mem_of_getElem? (i := 2) rfl))⟩
set_option maxHeartbeats 4000000 in
set_option maxRecDepth 100000 in
theorem c_J6_numberOfLeadingZeros_0f7a4 (l : Launch) (x0 : Int32) : Met l yJ6_numberOfLeadingZeros_0f7a4 zJ6_numberOfLeadingZeros_0f7a4 ({ frames := 0, cells := 0, slots := 0, locals := 0 }) (va_Pc [.int x0] (fun U => True)) (vp_Si (fun r => r = f_J6_numberOfLeadingZeros_0f7a4 x0)) 0 0 (fun _ => False) := by
  refine Met.ofW (cc := cJ6_numberOfLeadingZeros_0f7a4) (maxL := 2) (ret := (some .int)) (by decide) rfl ?_
  intro p e s m args below meth c s₁ B hml hv
  obtain ⟨rfl, -⟩ := hv
  have hx := B.exec
  have hb := B.bytes
  have hr := B.returns
  have hts : ∀ w ∈ zall, w.before _ s = true := fun w h => atoms_spec (ws := zJ6_numberOfLeadingZeros_0f7a4) B.pre w (List.mem_cons_of_mem _ h)
  have hown : s.vm.findClass RJ6 = some m.cls := findClass_of_methodNamed B.named
  have hlocks := B.notSynchronized
  have hl := lv_entry ([.int x0]) (n := 2) (Nat.le_of_ble_eq_true rfl)
  rw [lg_entry_eq]
  generalize (lg_sl ([.int x0]) ++ List.replicate (2 - (lg_sl ([.int x0])).length) Slot.unset).toArray = ls at hl ⊢
  have hl : lv_has ls 2 [(0, .int x0)] := hl
  have hf : f_J6_numberOfLeadingZeros_0f7a4 x0 = (f_J6_numberOfLeadingZeros_0f7a4_7 x0) := rfl
  refine lv_iload_n hx hb dJ6_numberOfLeadingZeros_0f7a4_0 rfl (lv_at hl 0 rfl) ?_
  refine lv_if_gt (tgt := 15) hx hb dJ6_numberOfLeadingZeros_0f7a4_1 (by decide) (fun c_1 => ?_) (fun c_1 => ?_)
  · have hf : f_J6_numberOfLeadingZeros_0f7a4 x0 = (f_J6_numberOfLeadingZeros_0f7a4_5 x0) := hf.trans (if_pos c_1)
    refine lv_bipush (v := 31) hx hb dJ6_numberOfLeadingZeros_0f7a4_15 (by decide) ?_
    refine lv_istore_n (lv' := [(1, .int (31 : Int32)), (0, .int x0)]) hx hb dJ6_numberOfLeadingZeros_0f7a4_17 rfl hl (by decide) rfl (fun ls hl => ?_)
    refine lv_iload_n hx hb dJ6_numberOfLeadingZeros_0f7a4_18 rfl (lv_at hl 1 rfl) ?_
    refine lv_ldcw (v := 65536) hx hb hown (hts _ (zin__r10 (.constant RJ6 264 (65536)) (List.mem_of_getElem? (i := 3) rfl))) dJ6_numberOfLeadingZeros_0f7a4_19 ?_
    refine W_cut (α := Int32 × Int32) (pcJ := 33) (nL := 2) (fun v => f_J6_numberOfLeadingZeros_0f7a4 x0 = (f_J6_numberOfLeadingZeros_0f7a4_4 v.1 v.2)) (fun v => []) (fun v => [(0, .int v.1), (1, .int v.2)]) (fun v ls hf hl => ?_) (fun K_33 => ?_)
    · obtain ⟨v0_1, v1_2⟩ := v
      have hf : f_J6_numberOfLeadingZeros_0f7a4 x0 = (f_J6_numberOfLeadingZeros_0f7a4_4 v0_1 v1_2) := hf
      have hl : lv_has ls 2 [(0, .int v0_1), (1, .int v1_2)] := hl
      refine lv_iload_n hx hb dJ6_numberOfLeadingZeros_0f7a4_33 rfl (lv_at hl 0 rfl) ?_
      refine lv_sipush (v := 256) hx hb dJ6_numberOfLeadingZeros_0f7a4_34 (by decide) ?_
      refine W_cut (α := Int32 × Int32) (pcJ := 48) (nL := 2) (fun v => f_J6_numberOfLeadingZeros_0f7a4 x0 = (f_J6_numberOfLeadingZeros_0f7a4_3 v.1 v.2)) (fun v => []) (fun v => [(0, .int v.1), (1, .int v.2)]) (fun v ls hf hl => ?_) (fun K_48 => ?_)
      · obtain ⟨v0_3, v1_4⟩ := v
        have hf : f_J6_numberOfLeadingZeros_0f7a4 x0 = (f_J6_numberOfLeadingZeros_0f7a4_3 v0_3 v1_4) := hf
        have hl : lv_has ls 2 [(0, .int v0_3), (1, .int v1_4)] := hl
        refine lv_iload_n hx hb dJ6_numberOfLeadingZeros_0f7a4_48 rfl (lv_at hl 0 rfl) ?_
        refine lv_bipush (v := 16) hx hb dJ6_numberOfLeadingZeros_0f7a4_49 (by decide) ?_
        refine W_cut (α := Int32 × Int32) (pcJ := 61) (nL := 2) (fun v => f_J6_numberOfLeadingZeros_0f7a4 x0 = (f_J6_numberOfLeadingZeros_0f7a4_2 v.1 v.2)) (fun v => []) (fun v => [(0, .int v.1), (1, .int v.2)]) (fun v ls hf hl => ?_) (fun K_61 => ?_)
        · obtain ⟨v0_5, v1_6⟩ := v
          have hf : f_J6_numberOfLeadingZeros_0f7a4 x0 = (f_J6_numberOfLeadingZeros_0f7a4_2 v0_5 v1_6) := hf
          have hl : lv_has ls 2 [(0, .int v0_5), (1, .int v1_6)] := hl
          refine lv_iload_n hx hb dJ6_numberOfLeadingZeros_0f7a4_61 rfl (lv_at hl 0 rfl) ?_
          refine lv_iconst (v := 4) hx hb dJ6_numberOfLeadingZeros_0f7a4_62 (by decide) ?_
          refine W_cut (α := Int32 × Int32) (pcJ := 73) (nL := 2) (fun v => f_J6_numberOfLeadingZeros_0f7a4 x0 = (f_J6_numberOfLeadingZeros_0f7a4_1 v.1 v.2)) (fun v => []) (fun v => [(0, .int v.1), (1, .int v.2)]) (fun v ls hf hl => ?_) (fun K_73 => ?_)
          · obtain ⟨v0_7, v1_8⟩ := v
            have hf : f_J6_numberOfLeadingZeros_0f7a4 x0 = (v1_8 - (jiushr v0_7 (1 : Int32))) := hf
            have hl : lv_has ls 2 [(0, .int v0_7), (1, .int v1_8)] := hl
            refine lv_iload_n hx hb dJ6_numberOfLeadingZeros_0f7a4_73 rfl (lv_at hl 1 rfl) ?_
            refine lv_iload_n hx hb dJ6_numberOfLeadingZeros_0f7a4_74 rfl (lv_at hl 0 rfl) ?_
            refine lv_iconst (v := 1) hx hb dJ6_numberOfLeadingZeros_0f7a4_75 (by decide) ?_
            refine lv_iushr (v := (jiushr v0_7 (1 : Int32))) hx hb dJ6_numberOfLeadingZeros_0f7a4_76 rfl ?_
            refine lv_isub hx hb dJ6_numberOfLeadingZeros_0f7a4_77 ?_
            exact W.iret hx hb hr (fun t ht hW => ⟨_, rfl, hf.symm, ht⟩) (fun q hq => absurd hq List.not_mem_nil) dJ6_numberOfLeadingZeros_0f7a4_78
          refine lv_icmp_lt (tgt := 73) hx hb dJ6_numberOfLeadingZeros_0f7a4_63 (by decide) (fun c_63 => ?_) (fun c_63 => ?_)
          · have hf : f_J6_numberOfLeadingZeros_0f7a4 x0 = (f_J6_numberOfLeadingZeros_0f7a4_1 v0_5 v1_6) := hf.trans (if_pos c_63)
            exact K_73 (v0_5, v1_6) ls hf (lv_sub hl [0, 1] rfl)
          · have hf : f_J6_numberOfLeadingZeros_0f7a4 x0 = (f_J6_numberOfLeadingZeros_0f7a4_1 (jiushr v0_5 (2 : Int32)) (v1_6 + (-2 : Int32))) := hf.trans (if_neg c_63)
            obtain ⟨v1_9, e_v1_9⟩ : ∃ y : Int32, y = (v1_6 + (-2 : Int32)) := ⟨_, rfl⟩
            refine lv_iinc (v := v1_9) (lv' := [(1, .int v1_9), (0, .int v0_5)]) hx hb dJ6_numberOfLeadingZeros_0f7a4_66 hl (k := 1) rfl (by rw [e_v1_9]; rfl) (by decide) rfl (fun ls hl => ?_)
            have hf : f_J6_numberOfLeadingZeros_0f7a4 x0 = (f_J6_numberOfLeadingZeros_0f7a4_1 (jiushr v0_5 (2 : Int32)) v1_9) := hf.trans (congrArg (fun z => (f_J6_numberOfLeadingZeros_0f7a4_1 (jiushr v0_5 (2 : Int32)) z)) e_v1_9.symm)
            refine lv_iload_n hx hb dJ6_numberOfLeadingZeros_0f7a4_69 rfl (lv_at hl 1 rfl) ?_
            refine lv_iconst (v := 2) hx hb dJ6_numberOfLeadingZeros_0f7a4_70 (by decide) ?_
            refine lv_iushr (v := (jiushr v0_5 (2 : Int32))) hx hb dJ6_numberOfLeadingZeros_0f7a4_71 rfl ?_
            refine lv_topi (fun v0_10 e_v0_10 => ?_)
            have hf : f_J6_numberOfLeadingZeros_0f7a4 x0 = (f_J6_numberOfLeadingZeros_0f7a4_1 v0_10 v1_9) := hf.trans (congrArg (fun z => (f_J6_numberOfLeadingZeros_0f7a4_1 z v1_9)) e_v0_10.symm)
            refine lv_istore_n (lv' := [(0, .int v0_10), (1, .int v1_9)]) hx hb dJ6_numberOfLeadingZeros_0f7a4_72 rfl hl (by decide) rfl (fun ls hl => ?_)
            exact K_73 (v0_10, v1_9) ls hf (lv_sub hl [0, 1] rfl)
        refine lv_icmp_lt (tgt := 61) hx hb dJ6_numberOfLeadingZeros_0f7a4_51 (by decide) (fun c_51 => ?_) (fun c_51 => ?_)
        · have hf : f_J6_numberOfLeadingZeros_0f7a4 x0 = (f_J6_numberOfLeadingZeros_0f7a4_2 v0_3 v1_4) := hf.trans (if_pos c_51)
          exact K_61 (v0_3, v1_4) ls hf (lv_sub hl [0, 1] rfl)
        · have hf : f_J6_numberOfLeadingZeros_0f7a4 x0 = (f_J6_numberOfLeadingZeros_0f7a4_2 (jiushr v0_3 (4 : Int32)) (v1_4 + (-4 : Int32))) := hf.trans (if_neg c_51)
          obtain ⟨v1_11, e_v1_11⟩ : ∃ y : Int32, y = (v1_4 + (-4 : Int32)) := ⟨_, rfl⟩
          refine lv_iinc (v := v1_11) (lv' := [(1, .int v1_11), (0, .int v0_3)]) hx hb dJ6_numberOfLeadingZeros_0f7a4_54 hl (k := 1) rfl (by rw [e_v1_11]; rfl) (by decide) rfl (fun ls hl => ?_)
          have hf : f_J6_numberOfLeadingZeros_0f7a4 x0 = (f_J6_numberOfLeadingZeros_0f7a4_2 (jiushr v0_3 (4 : Int32)) v1_11) := hf.trans (congrArg (fun z => (f_J6_numberOfLeadingZeros_0f7a4_2 (jiushr v0_3 (4 : Int32)) z)) e_v1_11.symm)
          refine lv_iload_n hx hb dJ6_numberOfLeadingZeros_0f7a4_57 rfl (lv_at hl 1 rfl) ?_
          refine lv_iconst (v := 4) hx hb dJ6_numberOfLeadingZeros_0f7a4_58 (by decide) ?_
          refine lv_iushr (v := (jiushr v0_3 (4 : Int32))) hx hb dJ6_numberOfLeadingZeros_0f7a4_59 rfl ?_
          refine lv_topi (fun v0_12 e_v0_12 => ?_)
          have hf : f_J6_numberOfLeadingZeros_0f7a4 x0 = (f_J6_numberOfLeadingZeros_0f7a4_2 v0_12 v1_11) := hf.trans (congrArg (fun z => (f_J6_numberOfLeadingZeros_0f7a4_2 z v1_11)) e_v0_12.symm)
          refine lv_istore_n (lv' := [(0, .int v0_12), (1, .int v1_11)]) hx hb dJ6_numberOfLeadingZeros_0f7a4_60 rfl hl (by decide) rfl (fun ls hl => ?_)
          exact K_61 (v0_12, v1_11) ls hf (lv_sub hl [0, 1] rfl)
      refine lv_icmp_lt (tgt := 48) hx hb dJ6_numberOfLeadingZeros_0f7a4_37 (by decide) (fun c_37 => ?_) (fun c_37 => ?_)
      · have hf : f_J6_numberOfLeadingZeros_0f7a4 x0 = (f_J6_numberOfLeadingZeros_0f7a4_3 v0_1 v1_2) := hf.trans (if_pos c_37)
        exact K_48 (v0_1, v1_2) ls hf (lv_sub hl [0, 1] rfl)
      · have hf : f_J6_numberOfLeadingZeros_0f7a4 x0 = (f_J6_numberOfLeadingZeros_0f7a4_3 (jiushr v0_1 (8 : Int32)) (v1_2 + (-8 : Int32))) := hf.trans (if_neg c_37)
        obtain ⟨v1_13, e_v1_13⟩ : ∃ y : Int32, y = (v1_2 + (-8 : Int32)) := ⟨_, rfl⟩
        refine lv_iinc (v := v1_13) (lv' := [(1, .int v1_13), (0, .int v0_1)]) hx hb dJ6_numberOfLeadingZeros_0f7a4_40 hl (k := 1) rfl (by rw [e_v1_13]; rfl) (by decide) rfl (fun ls hl => ?_)
        have hf : f_J6_numberOfLeadingZeros_0f7a4 x0 = (f_J6_numberOfLeadingZeros_0f7a4_3 (jiushr v0_1 (8 : Int32)) v1_13) := hf.trans (congrArg (fun z => (f_J6_numberOfLeadingZeros_0f7a4_3 (jiushr v0_1 (8 : Int32)) z)) e_v1_13.symm)
        refine lv_iload_n hx hb dJ6_numberOfLeadingZeros_0f7a4_43 rfl (lv_at hl 1 rfl) ?_
        refine lv_bipush (v := 8) hx hb dJ6_numberOfLeadingZeros_0f7a4_44 (by decide) ?_
        refine lv_iushr (v := (jiushr v0_1 (8 : Int32))) hx hb dJ6_numberOfLeadingZeros_0f7a4_46 rfl ?_
        refine lv_topi (fun v0_14 e_v0_14 => ?_)
        have hf : f_J6_numberOfLeadingZeros_0f7a4 x0 = (f_J6_numberOfLeadingZeros_0f7a4_3 v0_14 v1_13) := hf.trans (congrArg (fun z => (f_J6_numberOfLeadingZeros_0f7a4_3 z v1_13)) e_v0_14.symm)
        refine lv_istore_n (lv' := [(0, .int v0_14), (1, .int v1_13)]) hx hb dJ6_numberOfLeadingZeros_0f7a4_47 rfl hl (by decide) rfl (fun ls hl => ?_)
        exact K_48 (v0_14, v1_13) ls hf (lv_sub hl [0, 1] rfl)
    refine lv_icmp_lt (tgt := 33) hx hb dJ6_numberOfLeadingZeros_0f7a4_22 (by decide) (fun c_22 => ?_) (fun c_22 => ?_)
    · have hf : f_J6_numberOfLeadingZeros_0f7a4 x0 = (f_J6_numberOfLeadingZeros_0f7a4_4 x0 (31 : Int32)) := hf.trans (if_pos c_22)
      exact K_33 (x0, (31 : Int32)) ls hf (lv_sub hl [1, 0] rfl)
    · have hf : f_J6_numberOfLeadingZeros_0f7a4 x0 = (f_J6_numberOfLeadingZeros_0f7a4_4 (jiushr x0 (16 : Int32)) ((31 : Int32) + (-16 : Int32))) := hf.trans (if_neg c_22)
      obtain ⟨v1_15, e_v1_15⟩ : ∃ y : Int32, y = ((31 : Int32) + (-16 : Int32)) := ⟨_, rfl⟩
      refine lv_iinc (v := v1_15) (lv' := [(1, .int v1_15), (0, .int x0)]) hx hb dJ6_numberOfLeadingZeros_0f7a4_25 hl (k := 0) rfl (by rw [e_v1_15]; rfl) (by decide) rfl (fun ls hl => ?_)
      have hf : f_J6_numberOfLeadingZeros_0f7a4 x0 = (f_J6_numberOfLeadingZeros_0f7a4_4 (jiushr x0 (16 : Int32)) v1_15) := hf.trans (congrArg (fun z => (f_J6_numberOfLeadingZeros_0f7a4_4 (jiushr x0 (16 : Int32)) z)) e_v1_15.symm)
      refine lv_iload_n hx hb dJ6_numberOfLeadingZeros_0f7a4_28 rfl (lv_at hl 1 rfl) ?_
      refine lv_bipush (v := 16) hx hb dJ6_numberOfLeadingZeros_0f7a4_29 (by decide) ?_
      refine lv_iushr (v := (jiushr x0 (16 : Int32))) hx hb dJ6_numberOfLeadingZeros_0f7a4_31 rfl ?_
      refine lv_topi (fun v0_16 e_v0_16 => ?_)
      have hf : f_J6_numberOfLeadingZeros_0f7a4 x0 = (f_J6_numberOfLeadingZeros_0f7a4_4 v0_16 v1_15) := hf.trans (congrArg (fun z => (f_J6_numberOfLeadingZeros_0f7a4_4 z v1_15)) e_v0_16.symm)
      refine lv_istore_n (lv' := [(0, .int v0_16), (1, .int v1_15)]) hx hb dJ6_numberOfLeadingZeros_0f7a4_32 rfl hl (by decide) rfl (fun ls hl => ?_)
      exact K_33 (v0_16, v1_15) ls hf (lv_sub hl [0, 1] rfl)
  · have hf : f_J6_numberOfLeadingZeros_0f7a4 x0 = (f_J6_numberOfLeadingZeros_0f7a4_6 x0) := hf.trans (if_neg c_1)
    refine lv_iload_n hx hb dJ6_numberOfLeadingZeros_0f7a4_4 rfl (lv_at hl 0 rfl) ?_
    refine lv_if_ne (tgt := 13) hx hb dJ6_numberOfLeadingZeros_0f7a4_5 (by decide) (fun c_5 => ?_) (fun c_5 => ?_)
    · have hf : f_J6_numberOfLeadingZeros_0f7a4 x0 = (0 : Int32) := hf.trans (if_neg c_5)
      refine lv_iconst (v := 0) hx hb dJ6_numberOfLeadingZeros_0f7a4_13 (by decide) ?_
      exact W.iret hx hb hr (fun t ht hW => ⟨_, rfl, hf.symm, ht⟩) (fun q hq => absurd hq List.not_mem_nil) dJ6_numberOfLeadingZeros_0f7a4_14
    · have hf : f_J6_numberOfLeadingZeros_0f7a4 x0 = (32 : Int32) := hf.trans (if_pos c_5)
      refine lv_bipush (v := 32) hx hb dJ6_numberOfLeadingZeros_0f7a4_8 (by decide) ?_
      refine lv_goto (tgt := 14) hx hb dJ6_numberOfLeadingZeros_0f7a4_10 (by decide) ?_
      exact W.iret hx hb hr (fun t ht hW => ⟨_, rfl, hf.symm, ht⟩) (fun q hq => absurd hq List.not_mem_nil) dJ6_numberOfLeadingZeros_0f7a4_14
def f_J13_numberOfLeadingZeros_95d88_1 (x0 : Int64) (v2_1 : Int32) : Int32 := if v2_1 = 0 then ((32 : Int32) + (f_J6_numberOfLeadingZeros_0f7a4 ((x0).toInt32))) else (f_J6_numberOfLeadingZeros_0f7a4 v2_1)
def f_J13_numberOfLeadingZeros_95d88 (x0 : Int64) : Int32 := (f_J13_numberOfLeadingZeros_95d88_1 x0 (((jlushr x0 (32 : Int32))).toInt32))
def zJ13_numberOfLeadingZeros_95d88 : List Cond := .code yJ13_numberOfLeadingZeros_95d88 cJ13_numberOfLeadingZeros_95d88 3 (some .int) :: zall
theorem iJ13_numberOfLeadingZeros_95d88 : MWs yJ13_numberOfLeadingZeros_95d88 (.code yJ13_numberOfLeadingZeros_95d88 cJ13_numberOfLeadingZeros_95d88 3 (some .int)) := ⟨(zin__r9 (.static yJ13_numberOfLeadingZeros_95d88) (List.mem_of_getElem? (i := 20) rfl)), (zin__r9 (.initialized RJ13) (List.mem_of_getElem? (i := 21) rfl)), (zin__r9 (.code yJ13_numberOfLeadingZeros_95d88 cJ13_numberOfLeadingZeros_95d88 3 (some .int)) (List.mem_of_getElem? (i := 22) rfl))⟩
set_option maxHeartbeats 4000000 in
set_option maxRecDepth 100000 in
theorem c_J13_numberOfLeadingZeros_95d88 (l : Launch) (x0 : Int64) : Met l yJ13_numberOfLeadingZeros_95d88 zJ13_numberOfLeadingZeros_95d88 ({ frames := 1, cells := 0, slots := 0, locals := 21 }) (va_Pc [.long x0] (fun U => True)) (vp_Si (fun r => r = f_J13_numberOfLeadingZeros_95d88 x0)) 0 0 (fun _ => False) := by
  refine Met.ofW (cc := cJ13_numberOfLeadingZeros_95d88) (maxL := 3) (ret := (some .int)) (by decide) rfl ?_
  intro p e s m args below meth c s₁ B hml hv
  obtain ⟨rfl, -⟩ := hv
  have hx := B.exec
  have hb := B.bytes
  have hr := B.returns
  have hts : ∀ w ∈ zall, w.before _ s = true := fun w h => atoms_spec (ws := zJ13_numberOfLeadingZeros_95d88) B.pre w (List.mem_cons_of_mem _ h)
  have hown : s.vm.findClass RJ13 = some m.cls := findClass_of_methodNamed B.named
  have hlocks := B.notSynchronized
  have hl := lv_entry ([.long x0]) (n := 3) (Nat.le_of_ble_eq_true rfl)
  rw [lg_entry_eq]
  generalize (lg_sl ([.long x0]) ++ List.replicate (3 - (lg_sl ([.long x0])).length) Slot.unset).toArray = ls at hl ⊢
  have hl : lv_has ls 3 [(0, .long x0)] := hl
  have hf : f_J13_numberOfLeadingZeros_95d88 x0 = (f_J13_numberOfLeadingZeros_95d88_1 x0 (((jlushr x0 (32 : Int32))).toInt32)) := rfl
  refine lv_lload_n hx hb dJ13_numberOfLeadingZeros_95d88_0 rfl (lv_at hl 0 rfl) ?_
  refine lv_bipush (v := 32) hx hb dJ13_numberOfLeadingZeros_95d88_1 (by decide) ?_
  refine lv_lushr (v := (jlushr x0 (32 : Int32))) hx hb dJ13_numberOfLeadingZeros_95d88_3 rfl ?_
  refine lv_l2i (v := (((jlushr x0 (32 : Int32))).toInt32)) hx hb dJ13_numberOfLeadingZeros_95d88_4 rfl ?_
  refine lv_topi (fun v2_1 e_v2_1 => ?_)
  have hf : f_J13_numberOfLeadingZeros_95d88 x0 = (f_J13_numberOfLeadingZeros_95d88_1 x0 v2_1) := hf.trans (congrArg (fun z => (f_J13_numberOfLeadingZeros_95d88_1 x0 z)) e_v2_1.symm)
  refine lv_istore_n (lv' := [(2, .int v2_1), (0, .long x0)]) hx hb dJ13_numberOfLeadingZeros_95d88_5 rfl hl (by decide) rfl (fun ls hl => ?_)
  refine lv_iload_n hx hb dJ13_numberOfLeadingZeros_95d88_6 rfl (lv_at hl 0 rfl) ?_
  refine lv_if_ne (tgt := 21) hx hb dJ13_numberOfLeadingZeros_95d88_7 (by decide) (fun c_7 => ?_) (fun c_7 => ?_)
  · have hf : f_J13_numberOfLeadingZeros_95d88 x0 = (f_J6_numberOfLeadingZeros_0f7a4 v2_1) := hf.trans (if_neg c_7)
    refine lv_iload_n hx hb dJ13_numberOfLeadingZeros_95d88_21 rfl (lv_at hl 0 rfl) ?_
    refine vp_callSi (va_Run.run (va_runS (As := [.int v2_1]) (rest := []) ⟨hx, hb, hml, hown, hts⟩ (c_J6_numberOfLeadingZeros_0f7a4 l  v2_1) (va_cwS 1 hts (gS iJ6_numberOfLeadingZeros_0f7a4 (zin__r9 (.methodLink RJ13 308 yJ6_numberOfLeadingZeros_0f7a4) (List.mem_of_getElem? (i := 23) rfl))) rfl rfl rfl (by decide +kernel) ⟨Nat.le_of_ble_eq_true rfl, Nat.le_of_ble_eq_true rfl⟩) ⟨fun a U g mk q => ⟨q.1, trivial⟩, fun U hU hW => ⟨rfl, trivial⟩⟩ rfl rfl hl.1 rfl (lv_room (Nat.le_of_ble_eq_true rfl)) dJ13_numberOfLeadingZeros_95d88_22 ⟨Nat.zero_le _, Nat.zero_le _⟩)) (fun r_22 hr_22 => ?_)
    subst hr_22
    exact W.iret hx hb hr (fun t ht hW => ⟨_, rfl, hf.symm, ht⟩) (fun q hq => absurd hq List.not_mem_nil) dJ13_numberOfLeadingZeros_95d88_25
  · have hf : f_J13_numberOfLeadingZeros_95d88 x0 = ((32 : Int32) + (f_J6_numberOfLeadingZeros_0f7a4 ((x0).toInt32))) := hf.trans (if_pos c_7)
    refine lv_bipush (v := 32) hx hb dJ13_numberOfLeadingZeros_95d88_10 (by decide) ?_
    refine lv_lload_n hx hb dJ13_numberOfLeadingZeros_95d88_12 rfl (lv_at hl 1 rfl) ?_
    refine lv_l2i (v := ((x0).toInt32)) hx hb dJ13_numberOfLeadingZeros_95d88_13 rfl ?_
    refine vp_callSi (va_Run.run (va_runS (As := [.int ((x0).toInt32)]) (rest := [.int (32 : Int32)]) ⟨hx, hb, hml, hown, hts⟩ (c_J6_numberOfLeadingZeros_0f7a4 l  ((x0).toInt32)) (va_cwS 1 hts (gS iJ6_numberOfLeadingZeros_0f7a4 (zin__r9 (.methodLink RJ13 308 yJ6_numberOfLeadingZeros_0f7a4) (List.mem_of_getElem? (i := 23) rfl))) rfl rfl rfl (by decide +kernel) ⟨Nat.le_of_ble_eq_true rfl, Nat.le_of_ble_eq_true rfl⟩) ⟨fun a U g mk q => ⟨q.1, trivial⟩, fun U hU hW => ⟨rfl, trivial⟩⟩ rfl rfl hl.1 rfl (lv_room (Nat.le_of_ble_eq_true rfl)) dJ13_numberOfLeadingZeros_95d88_14 ⟨Nat.zero_le _, Nat.zero_le _⟩)) (fun r_14 hr_14 => ?_)
    subst hr_14
    refine lv_iadd hx hb dJ13_numberOfLeadingZeros_95d88_17 ?_
    refine lv_goto (tgt := 25) hx hb dJ13_numberOfLeadingZeros_95d88_18 (by decide) ?_
    exact W.iret hx hb hr (fun t ht hW => ⟨_, rfl, hf.symm, ht⟩) (fun q hq => absurd hq List.not_mem_nil) dJ13_numberOfLeadingZeros_95d88_25
def f_X1_magnitude (i : Nat) (x0 : Int64) : Int64 := (x0 &&& ((ksgn i) - (1 : Int64)))
def zX1_magnitude : List Cond := .code yX1_magnitude cX1_magnitude 3 (some .long) :: zall
theorem iX1_magnitude : MWv RX1 yX1_magnitude (.code yX1_magnitude cX1_magnitude 3 (some .long)) := ⟨(zin__r4 (.instanceMethod yX1_magnitude) (List.mem_of_getElem? (i := 6) rfl)), (zin__r4 (.selects RX1 yX1_magnitude yX1_magnitude) (List.mem_of_getElem? (i := 7) rfl)), (zin__r3 (.initialized RX1) (List.mem_of_getElem? (i := 20) rfl)), (zin__r4 (.code yX1_magnitude cX1_magnitude 3 (some .long)) (List.mem_of_getElem? (i := 8) rfl))⟩
set_option maxHeartbeats 4000000 in
set_option maxRecDepth 100000 in
theorem c_X1_magnitude (l : Launch) (ad : Nat → Nat) (i : Nat) (h_i : i < 2) (x0 : Int64) : Met l yX1_magnitude zX1_magnitude ({ frames := 0, cells := 0, slots := 0, locals := 0 }) (va_Pc [.ref (ad i), .long x0] (fun U => kU ad U)) (vp_Sl (fun r => r = f_X1_magnitude i x0)) 0 0 (fun _ => False) := by
  refine Met.ofW (cc := cX1_magnitude) (maxL := 3) (ret := (some .long)) (by decide) rfl ?_
  intro p e s m args below meth c s₁ B hml hv
  obtain ⟨rfl, hk⟩ := hv
  have hx := B.exec
  have hb := B.bytes
  have hr := B.returns
  have hts : ∀ w ∈ zall, w.before _ s = true := fun w h => atoms_spec (ws := zX1_magnitude) B.pre w (List.mem_cons_of_mem _ h)
  have hown : s.vm.findClass RX1 = some m.cls := findClass_of_methodNamed B.named
  have hlocks := B.notSynchronized
  have hl := lv_entry ([.ref (ad i), .long x0]) (n := 3) (Nat.le_of_ble_eq_true rfl)
  rw [lg_entry_eq]
  generalize (lg_sl ([.ref (ad i), .long x0]) ++ List.replicate (3 - (lg_sl ([.ref (ad i), .long x0])).length) Slot.unset).toArray = ls at hl ⊢
  have hl : lv_has ls 3 [(0, .ref (ad i)), (1, .long x0)] := hl
  have hf : f_X1_magnitude i x0 = (x0 &&& ((ksgn i) - (1 : Int64))) := rfl
  refine lv_lload_n hx hb dX1_magnitude_0 rfl (lv_at hl 1 rfl) ?_
  refine lv_aload_n hx hb dX1_magnitude_1 rfl (lv_at hl 0 rfl) ?_
  refine vk_getf hx hb (kE_sign hk h_i) va_S.rf hown (hts _ (zin__r3 (.fieldLink RX1 39 "ReckonBench$Kind" "sign" "J") (List.mem_of_getElem? (i := 22) rfl))) (fun _ h9 => h9) dX1_magnitude_2 ?_
  refine lv_lconst (v := 1) hx hb dX1_magnitude_5 (by decide) ?_
  refine lv_lsub hx hb dX1_magnitude_6 ?_
  refine lv_land hx hb dX1_magnitude_7 ?_
  exact W.lret hx hb hr (fun t ht hW => ⟨_, rfl, hf.symm, ht⟩) (fun q hq => absurd hq List.not_mem_nil) dX1_magnitude_8
def f_X1_isNegative_1 (i : Nat) (x0 : Int64) : Int32 := if (x0 &&& (ksgn i)) = (0 : Int64) then (0 : Int32) else (1 : Int32)
def f_X1_isNegative (i : Nat) (x0 : Int64) : Int32 := (f_X1_isNegative_1 i x0)
def zX1_isNegative : List Cond := .code yX1_isNegative cX1_isNegative 3 (some .boolean) :: zall
theorem iX1_isNegative : MWv RX1 yX1_isNegative (.code yX1_isNegative cX1_isNegative 3 (some .boolean)) := ⟨(zin__r4 (.instanceMethod yX1_isNegative) (List.mem_of_getElem? (i := 18) rfl)), (zin__r4 (.selects RX1 yX1_isNegative yX1_isNegative) (List.mem_of_getElem? (i := 19) rfl)), (zin__r3 (.initialized RX1) (List.mem_of_getElem? (i := 20) rfl)), (zin__r4 (.code yX1_isNegative cX1_isNegative 3 (some .boolean)) (List.mem_of_getElem? (i := 20) rfl))⟩
set_option maxHeartbeats 4000000 in
set_option maxRecDepth 100000 in
theorem c_X1_isNegative (l : Launch) (ad : Nat → Nat) (i : Nat) (h_i : i < 2) (x0 : Int64) : Met l yX1_isNegative zX1_isNegative ({ frames := 0, cells := 0, slots := 0, locals := 0 }) (va_Pc [.ref (ad i), .long x0] (fun U => kU ad U)) (vp_Si (fun r => r = f_X1_isNegative i x0)) 0 0 (fun _ => False) := by
  refine Met.ofW (cc := cX1_isNegative) (maxL := 3) (ret := (some .boolean)) (by decide) rfl ?_
  intro p e s m args below meth c s₁ B hml hv
  obtain ⟨rfl, hk⟩ := hv
  have hx := B.exec
  have hb := B.bytes
  have hr := B.returns
  have hts : ∀ w ∈ zall, w.before _ s = true := fun w h => atoms_spec (ws := zX1_isNegative) B.pre w (List.mem_cons_of_mem _ h)
  have hown : s.vm.findClass RX1 = some m.cls := findClass_of_methodNamed B.named
  have hlocks := B.notSynchronized
  have hl := lv_entry ([.ref (ad i), .long x0]) (n := 3) (Nat.le_of_ble_eq_true rfl)
  rw [lg_entry_eq]
  generalize (lg_sl ([.ref (ad i), .long x0]) ++ List.replicate (3 - (lg_sl ([.ref (ad i), .long x0])).length) Slot.unset).toArray = ls at hl ⊢
  have hl : lv_has ls 3 [(0, .ref (ad i)), (1, .long x0)] := hl
  have hf : f_X1_isNegative i x0 = (f_X1_isNegative_1 i x0) := rfl
  refine lv_lload_n hx hb dX1_isNegative_0 rfl (lv_at hl 1 rfl) ?_
  refine lv_aload_n hx hb dX1_isNegative_1 rfl (lv_at hl 0 rfl) ?_
  refine vk_getf hx hb (kE_sign hk h_i) va_S.rf hown (hts _ (zin__r3 (.fieldLink RX1 39 "ReckonBench$Kind" "sign" "J") (List.mem_of_getElem? (i := 22) rfl))) (fun _ h9 => h9) dX1_isNegative_2 ?_
  refine lv_land hx hb dX1_isNegative_5 ?_
  refine lv_lconst (v := 0) hx hb dX1_isNegative_6 (by decide) ?_
  refine W.lcmp hx hb dX1_isNegative_7 ?_
  refine lv_if_eq (tgt := 15) hx hb dX1_isNegative_8 (by decide) (fun c_8 => ?_) (fun c_8 => ?_)
  · have c_8 : (x0 &&& (ksgn i)) = (0 : Int64) := (lg_cmp_eq (x0 &&& (ksgn i)) (0 : Int64)).mp c_8
    have hf : f_X1_isNegative i x0 = (0 : Int32) := hf.trans (if_pos c_8)
    refine lv_iconst (v := 0) hx hb dX1_isNegative_15 (by decide) ?_
    exact W.zret hx hb hr rfl (fun t ht hW => ⟨_, rfl, hf.symm, ht⟩) (fun q hq => absurd hq List.not_mem_nil) dX1_isNegative_16
  · have c_8 : ¬ ((x0 &&& (ksgn i)) = (0 : Int64)) := fun h9 => c_8 ((lg_cmp_eq (x0 &&& (ksgn i)) (0 : Int64)).mpr h9)
    have hf : f_X1_isNegative i x0 = (1 : Int32) := hf.trans (if_neg c_8)
    refine lv_iconst (v := 1) hx hb dX1_isNegative_11 (by decide) ?_
    refine lv_goto (tgt := 16) hx hb dX1_isNegative_12 (by decide) ?_
    exact W.zret hx hb hr rfl (fun t ht hW => ⟨_, rfl, hf.symm, ht⟩) (fun q hq => absurd hq List.not_mem_nil) dX1_isNegative_16
def f_X1_isNan_1 (i : Nat) (x0 : Int64) : Int32 := if (f_X1_magnitude i x0) ≤ (kinf i) then (0 : Int32) else (1 : Int32)
def f_X1_isNan (i : Nat) (x0 : Int64) : Int32 := (f_X1_isNan_1 i x0)
def zX1_isNan : List Cond := .code yX1_isNan cX1_isNan 3 (some .boolean) :: zall
theorem iX1_isNan : MWv RX1 yX1_isNan (.code yX1_isNan cX1_isNan 3 (some .boolean)) := ⟨(zin__r4 (.instanceMethod yX1_isNan) (List.mem_of_getElem? (i := 1) rfl)), (zin__r4 (.selects RX1 yX1_isNan yX1_isNan) (List.mem_of_getElem? (i := 2) rfl)), (zin__r3 (.initialized RX1) (List.mem_of_getElem? (i := 20) rfl)), (zin__r4 (.code yX1_isNan cX1_isNan 3 (some .boolean)) (List.mem_of_getElem? (i := 3) rfl))⟩
set_option maxHeartbeats 4000000 in
set_option maxRecDepth 100000 in
theorem c_X1_isNan (l : Launch) (ad : Nat → Nat) (i : Nat) (h_i : i < 2) (x0 : Int64) : Met l yX1_isNan zX1_isNan ({ frames := 1, cells := 0, slots := 0, locals := 22 }) (va_Pc [.ref (ad i), .long x0] (fun U => kU ad U)) (vp_Si (fun r => r = f_X1_isNan i x0)) 0 0 (fun _ => False) := by
  refine Met.ofW (cc := cX1_isNan) (maxL := 3) (ret := (some .boolean)) (by decide) rfl ?_
  intro p e s m args below meth c s₁ B hml hv
  obtain ⟨rfl, hk⟩ := hv
  have hx := B.exec
  have hb := B.bytes
  have hr := B.returns
  have hts : ∀ w ∈ zall, w.before _ s = true := fun w h => atoms_spec (ws := zX1_isNan) B.pre w (List.mem_cons_of_mem _ h)
  have hown : s.vm.findClass RX1 = some m.cls := findClass_of_methodNamed B.named
  have hlocks := B.notSynchronized
  have hl := lv_entry ([.ref (ad i), .long x0]) (n := 3) (Nat.le_of_ble_eq_true rfl)
  rw [lg_entry_eq]
  generalize (lg_sl ([.ref (ad i), .long x0]) ++ List.replicate (3 - (lg_sl ([.ref (ad i), .long x0])).length) Slot.unset).toArray = ls at hl ⊢
  have hl : lv_has ls 3 [(0, .ref (ad i)), (1, .long x0)] := hl
  have hf : f_X1_isNan i x0 = (f_X1_isNan_1 i x0) := rfl
  refine lv_aload_n hx hb dX1_isNan_0 rfl (lv_at hl 0 rfl) ?_
  refine lv_lload_n hx hb dX1_isNan_1 rfl (lv_at hl 1 rfl) ?_
  refine vp_callSl (va_Run.run (va_runV (As := [.long x0]) (rest := []) ⟨hx, hb, hml, hown, hts⟩ (c_X1_magnitude l ad i h_i x0) (cwV 1 hts (gV iX1_magnitude (zin__r4 (.methodLink RX1 53 yX1_magnitude) (List.mem_of_getElem? (i := 5) rfl))) rfl rfl rfl (by decide +kernel) ⟨Nat.le_of_ble_eq_true rfl, Nat.le_of_ble_eq_true rfl⟩) ⟨fun a U g mk q => ⟨q.1, kU_bl q.2⟩, (kU_rv hk h_i), fun U hU hW => ⟨rfl, kU_mv hk hU hW⟩⟩ rfl rfl hl.1 rfl (lv_room (Nat.le_of_ble_eq_true rfl)) dX1_isNan_2 ⟨Nat.zero_le _, Nat.zero_le _⟩)) (fun r_2 hr_2 => ?_)
  subst hr_2
  refine lv_aload_n hx hb dX1_isNan_5 rfl (lv_at hl 0 rfl) ?_
  refine vk_getf hx hb (kE_infinite hk h_i) va_S.rf hown (hts _ (zin__r4 (.fieldLink RX1 43 "ReckonBench$Kind" "infinite" "J") (List.mem_of_getElem? (i := 4) rfl))) (fun _ h9 => h9) dX1_isNan_6 ?_
  refine W.lcmp hx hb dX1_isNan_9 ?_
  refine lv_if_le (tgt := 17) hx hb dX1_isNan_10 (by decide) (fun c_10 => ?_) (fun c_10 => ?_)
  · have c_10 : (f_X1_magnitude i x0) ≤ (kinf i) := (lg_cmp_le (f_X1_magnitude i x0) (kinf i)).mp c_10
    have hf : f_X1_isNan i x0 = (0 : Int32) := hf.trans (if_pos c_10)
    refine lv_iconst (v := 0) hx hb dX1_isNan_17 (by decide) ?_
    exact W.zret hx hb hr rfl (fun t ht hW => ⟨_, rfl, hf.symm, ht⟩) (fun q hq => absurd hq List.not_mem_nil) dX1_isNan_18
  · have c_10 : ¬ ((f_X1_magnitude i x0) ≤ (kinf i)) := fun h9 => c_10 ((lg_cmp_le (f_X1_magnitude i x0) (kinf i)).mpr h9)
    have hf : f_X1_isNan i x0 = (1 : Int32) := hf.trans (if_neg c_10)
    refine lv_iconst (v := 1) hx hb dX1_isNan_13 (by decide) ?_
    refine lv_goto (tgt := 18) hx hb dX1_isNan_14 (by decide) ?_
    exact W.zret hx hb hr rfl (fun t ht hW => ⟨_, rfl, hf.symm, ht⟩) (fun q hq => absurd hq List.not_mem_nil) dX1_isNan_18
def f_X1_cleaned_1 (i : Nat) (v3_1 : Int64) : Int64 := if (f_X1_isNan i v3_1) = 0 then v3_1 else (knan i)
def f_X1_cleaned (i : Nat) (x0 : Int64) : Int64 := (f_X1_cleaned_1 i (x0 &&& ((ksgn i) ||| ((ksgn i) - (1 : Int64)))))
def zX1_cleaned : List Cond := .code yX1_cleaned cX1_cleaned 5 (some .long) :: zall
theorem iX1_cleaned : MWv RX1 yX1_cleaned (.code yX1_cleaned cX1_cleaned 5 (some .long)) := ⟨(zin__r3 (.instanceMethod yX1_cleaned) (List.mem_of_getElem? (i := 18) rfl)), (zin__r3 (.selects RX1 yX1_cleaned yX1_cleaned) (List.mem_of_getElem? (i := 19) rfl)), (zin__r3 (.initialized RX1) (List.mem_of_getElem? (i := 20) rfl)), (zin__r3 (.code yX1_cleaned cX1_cleaned 5 (some .long)) (List.mem_of_getElem? (i := 21) rfl))⟩
set_option maxHeartbeats 4000000 in
set_option maxRecDepth 100000 in
theorem c_X1_cleaned (l : Launch) (ad : Nat → Nat) (i : Nat) (h_i : i < 2) (x0 : Int64) : Met l yX1_cleaned zX1_cleaned ({ frames := 2, cells := 0, slots := 0, locals := 44 }) (va_Pc [.ref (ad i), .long x0] (fun U => kU ad U)) (vp_Sl (fun r => r = f_X1_cleaned i x0)) 0 0 (fun _ => False) := by
  refine Met.ofW (cc := cX1_cleaned) (maxL := 5) (ret := (some .long)) (by decide) rfl ?_
  intro p e s m args below meth c s₁ B hml hv
  obtain ⟨rfl, hk⟩ := hv
  have hx := B.exec
  have hb := B.bytes
  have hr := B.returns
  have hts : ∀ w ∈ zall, w.before _ s = true := fun w h => atoms_spec (ws := zX1_cleaned) B.pre w (List.mem_cons_of_mem _ h)
  have hown : s.vm.findClass RX1 = some m.cls := findClass_of_methodNamed B.named
  have hlocks := B.notSynchronized
  have hl := lv_entry ([.ref (ad i), .long x0]) (n := 5) (Nat.le_of_ble_eq_true rfl)
  rw [lg_entry_eq]
  generalize (lg_sl ([.ref (ad i), .long x0]) ++ List.replicate (5 - (lg_sl ([.ref (ad i), .long x0])).length) Slot.unset).toArray = ls at hl ⊢
  have hl : lv_has ls 5 [(0, .ref (ad i)), (1, .long x0)] := hl
  have hf : f_X1_cleaned i x0 = (f_X1_cleaned_1 i (x0 &&& ((ksgn i) ||| ((ksgn i) - (1 : Int64))))) := rfl
  refine lv_lload_n hx hb dX1_cleaned_0 rfl (lv_at hl 1 rfl) ?_
  refine lv_aload_n hx hb dX1_cleaned_1 rfl (lv_at hl 0 rfl) ?_
  refine vk_getf hx hb (kE_sign hk h_i) va_S.rf hown (hts _ (zin__r3 (.fieldLink RX1 39 "ReckonBench$Kind" "sign" "J") (List.mem_of_getElem? (i := 22) rfl))) (fun _ h9 => h9) dX1_cleaned_2 ?_
  refine lv_aload_n hx hb dX1_cleaned_5 rfl (lv_at hl 0 rfl) ?_
  refine vk_getf hx hb (kE_sign hk h_i) va_S.rf hown (hts _ (zin__r3 (.fieldLink RX1 39 "ReckonBench$Kind" "sign" "J") (List.mem_of_getElem? (i := 22) rfl))) (fun _ h9 => h9) dX1_cleaned_6 ?_
  refine lv_lconst (v := 1) hx hb dX1_cleaned_9 (by decide) ?_
  refine lv_lsub hx hb dX1_cleaned_10 ?_
  refine lv_lor hx hb dX1_cleaned_11 ?_
  refine lv_land hx hb dX1_cleaned_12 ?_
  refine lv_topl (fun v3_1 e_v3_1 => ?_)
  have hf : f_X1_cleaned i x0 = (f_X1_cleaned_1 i v3_1) := hf.trans (congrArg (fun z => (f_X1_cleaned_1 i z)) e_v3_1.symm)
  refine lv_lstore_n (lv' := [(3, .long v3_1), (0, .ref (ad i)), (1, .long x0)]) hx hb dX1_cleaned_13 rfl hl (by decide) rfl (fun ls hl => ?_)
  refine lv_aload_n hx hb dX1_cleaned_14 rfl (lv_at hl 1 rfl) ?_
  refine lv_lload_n hx hb dX1_cleaned_15 rfl (lv_at hl 0 rfl) ?_
  refine vp_callSi (va_Run.run (va_runV (As := [.long v3_1]) (rest := []) ⟨hx, hb, hml, hown, hts⟩ (c_X1_isNan l ad i h_i v3_1) (cwV 1 hts (gV iX1_isNan (zin__r4 (.methodLink RX1 49 yX1_isNan) (List.mem_of_getElem? (i := 0) rfl))) rfl rfl rfl (by decide +kernel) ⟨Nat.le_of_ble_eq_true rfl, Nat.le_of_ble_eq_true rfl⟩) ⟨fun a U g mk q => ⟨q.1, kU_bl q.2⟩, (kU_rv hk h_i), fun U hU hW => ⟨rfl, kU_mv hk hU hW⟩⟩ rfl rfl hl.1 rfl (lv_room (Nat.le_of_ble_eq_true rfl)) dX1_cleaned_16 ⟨Nat.zero_le _, Nat.zero_le _⟩)) (fun r_16 hr_16 => ?_)
  subst hr_16
  refine lv_if_eq (tgt := 29) hx hb dX1_cleaned_19 (by decide) (fun c_19 => ?_) (fun c_19 => ?_)
  · have hf : f_X1_cleaned i x0 = v3_1 := hf.trans (if_pos c_19)
    refine lv_lload_n hx hb dX1_cleaned_29 rfl (lv_at hl 0 rfl) ?_
    exact W.lret hx hb hr (fun t ht hW => ⟨_, rfl, hf.symm, ht⟩) (fun q hq => absurd hq List.not_mem_nil) dX1_cleaned_30
  · have hf : f_X1_cleaned i x0 = (knan i) := hf.trans (if_neg c_19)
    refine lv_aload_n hx hb dX1_cleaned_22 rfl (lv_at hl 1 rfl) ?_
    refine vk_getf hx hb (kE_nan hk h_i) va_S.rf hown (hts _ (zin__r3 (.fieldLink RX1 46 "ReckonBench$Kind" "nan" "J") (List.mem_of_getElem? (i := 23) rfl))) (fun _ h9 => h9) dX1_cleaned_23 ?_
    refine lv_goto (tgt := 30) hx hb dX1_cleaned_26 (by decide) ?_
    exact W.lret hx hb hr (fun t ht hW => ⟨_, rfl, hf.symm, ht⟩) (fun q hq => absurd hq List.not_mem_nil) dX1_cleaned_30
def f_X1_isInfinite_1 (i : Nat) (x0 : Int64) : Int32 := if (f_X1_magnitude i x0) = (kinf i) then (1 : Int32) else (0 : Int32)
def f_X1_isInfinite (i : Nat) (x0 : Int64) : Int32 := (f_X1_isInfinite_1 i x0)
def zX1_isInfinite : List Cond := .code yX1_isInfinite cX1_isInfinite 3 (some .boolean) :: zall
theorem iX1_isInfinite : MWv RX1 yX1_isInfinite (.code yX1_isInfinite cX1_isInfinite 3 (some .boolean)) := ⟨(zin__r9 (.instanceMethod yX1_isInfinite) (List.mem_of_getElem? (i := 3) rfl)), (zin__r9 (.selects RX1 yX1_isInfinite yX1_isInfinite) (List.mem_of_getElem? (i := 4) rfl)), (zin__r3 (.initialized RX1) (List.mem_of_getElem? (i := 20) rfl)), (zin__r9 (.code yX1_isInfinite cX1_isInfinite 3 (some .boolean)) (List.mem_of_getElem? (i := 5) rfl))⟩
set_option maxHeartbeats 4000000 in
set_option maxRecDepth 100000 in
theorem c_X1_isInfinite (l : Launch) (ad : Nat → Nat) (i : Nat) (h_i : i < 2) (x0 : Int64) : Met l yX1_isInfinite zX1_isInfinite ({ frames := 1, cells := 0, slots := 0, locals := 22 }) (va_Pc [.ref (ad i), .long x0] (fun U => kU ad U)) (vp_Si (fun r => r = f_X1_isInfinite i x0)) 0 0 (fun _ => False) := by
  refine Met.ofW (cc := cX1_isInfinite) (maxL := 3) (ret := (some .boolean)) (by decide) rfl ?_
  intro p e s m args below meth c s₁ B hml hv
  obtain ⟨rfl, hk⟩ := hv
  have hx := B.exec
  have hb := B.bytes
  have hr := B.returns
  have hts : ∀ w ∈ zall, w.before _ s = true := fun w h => atoms_spec (ws := zX1_isInfinite) B.pre w (List.mem_cons_of_mem _ h)
  have hown : s.vm.findClass RX1 = some m.cls := findClass_of_methodNamed B.named
  have hlocks := B.notSynchronized
  have hl := lv_entry ([.ref (ad i), .long x0]) (n := 3) (Nat.le_of_ble_eq_true rfl)
  rw [lg_entry_eq]
  generalize (lg_sl ([.ref (ad i), .long x0]) ++ List.replicate (3 - (lg_sl ([.ref (ad i), .long x0])).length) Slot.unset).toArray = ls at hl ⊢
  have hl : lv_has ls 3 [(0, .ref (ad i)), (1, .long x0)] := hl
  have hf : f_X1_isInfinite i x0 = (f_X1_isInfinite_1 i x0) := rfl
  refine lv_aload_n hx hb dX1_isInfinite_0 rfl (lv_at hl 0 rfl) ?_
  refine lv_lload_n hx hb dX1_isInfinite_1 rfl (lv_at hl 1 rfl) ?_
  refine vp_callSl (va_Run.run (va_runV (As := [.long x0]) (rest := []) ⟨hx, hb, hml, hown, hts⟩ (c_X1_magnitude l ad i h_i x0) (cwV 1 hts (gV iX1_magnitude (zin__r4 (.methodLink RX1 53 yX1_magnitude) (List.mem_of_getElem? (i := 5) rfl))) rfl rfl rfl (by decide +kernel) ⟨Nat.le_of_ble_eq_true rfl, Nat.le_of_ble_eq_true rfl⟩) ⟨fun a U g mk q => ⟨q.1, kU_bl q.2⟩, (kU_rv hk h_i), fun U hU hW => ⟨rfl, kU_mv hk hU hW⟩⟩ rfl rfl hl.1 rfl (lv_room (Nat.le_of_ble_eq_true rfl)) dX1_isInfinite_2 ⟨Nat.zero_le _, Nat.zero_le _⟩)) (fun r_2 hr_2 => ?_)
  subst hr_2
  refine lv_aload_n hx hb dX1_isInfinite_5 rfl (lv_at hl 0 rfl) ?_
  refine vk_getf hx hb (kE_infinite hk h_i) va_S.rf hown (hts _ (zin__r4 (.fieldLink RX1 43 "ReckonBench$Kind" "infinite" "J") (List.mem_of_getElem? (i := 4) rfl))) (fun _ h9 => h9) dX1_isInfinite_6 ?_
  refine W.lcmp hx hb dX1_isInfinite_9 ?_
  refine lv_if_ne (tgt := 17) hx hb dX1_isInfinite_10 (by decide) (fun c_10 => ?_) (fun c_10 => ?_)
  · have c_10 : ¬ ((f_X1_magnitude i x0) = (kinf i)) := fun h9 => c_10 ((lg_cmp_eq (f_X1_magnitude i x0) (kinf i)).mpr h9)
    have hf : f_X1_isInfinite i x0 = (0 : Int32) := hf.trans (if_neg c_10)
    refine lv_iconst (v := 0) hx hb dX1_isInfinite_17 (by decide) ?_
    exact W.zret hx hb hr rfl (fun t ht hW => ⟨_, rfl, hf.symm, ht⟩) (fun q hq => absurd hq List.not_mem_nil) dX1_isInfinite_18
  · have c_10 : (f_X1_magnitude i x0) = (kinf i) := (lg_cmp_eq (f_X1_magnitude i x0) (kinf i)).mp c_10
    have hf : f_X1_isInfinite i x0 = (1 : Int32) := hf.trans (if_pos c_10)
    refine lv_iconst (v := 1) hx hb dX1_isInfinite_13 (by decide) ?_
    refine lv_goto (tgt := 18) hx hb dX1_isInfinite_14 (by decide) ?_
    exact W.zret hx hb hr rfl (fun t ht hW => ⟨_, rfl, hf.symm, ht⟩) (fun q hq => absurd hq List.not_mem_nil) dX1_isInfinite_18
def f_X1_signed_1 (i : Nat) (x0 : Int32) (x1 : Int64) : Int64 := if x0 = 0 then x1 else ((ksgn i) ||| x1)
def f_X1_signed (i : Nat) (x0 : Int32) (x1 : Int64) : Int64 := (f_X1_signed_1 i x0 x1)
def zX1_signed : List Cond := .code yX1_signed cX1_signed 4 (some .long) :: zall
theorem iX1_signed : MWv RX1 yX1_signed (.code yX1_signed cX1_signed 4 (some .long)) := ⟨(zin__r9 (.instanceMethod yX1_signed) (List.mem_of_getElem? (i := 16) rfl)), (zin__r9 (.selects RX1 yX1_signed yX1_signed) (List.mem_of_getElem? (i := 17) rfl)), (zin__r3 (.initialized RX1) (List.mem_of_getElem? (i := 20) rfl)), (zin__r9 (.code yX1_signed cX1_signed 4 (some .long)) (List.mem_of_getElem? (i := 18) rfl))⟩
set_option maxHeartbeats 4000000 in
set_option maxRecDepth 100000 in
theorem c_X1_signed (l : Launch) (ad : Nat → Nat) (i : Nat) (h_i : i < 2) (x0 : Int32) (x1 : Int64) : Met l yX1_signed zX1_signed ({ frames := 0, cells := 0, slots := 0, locals := 0 }) (va_Pc [.ref (ad i), .int x0, .long x1] (fun U => kU ad U)) (vp_Sl (fun r => r = f_X1_signed i x0 x1)) 0 0 (fun _ => False) := by
  refine Met.ofW (cc := cX1_signed) (maxL := 4) (ret := (some .long)) (by decide) rfl ?_
  intro p e s m args below meth c s₁ B hml hv
  obtain ⟨rfl, hk⟩ := hv
  have hx := B.exec
  have hb := B.bytes
  have hr := B.returns
  have hts : ∀ w ∈ zall, w.before _ s = true := fun w h => atoms_spec (ws := zX1_signed) B.pre w (List.mem_cons_of_mem _ h)
  have hown : s.vm.findClass RX1 = some m.cls := findClass_of_methodNamed B.named
  have hlocks := B.notSynchronized
  have hl := lv_entry ([.ref (ad i), .int x0, .long x1]) (n := 4) (Nat.le_of_ble_eq_true rfl)
  rw [lg_entry_eq]
  generalize (lg_sl ([.ref (ad i), .int x0, .long x1]) ++ List.replicate (4 - (lg_sl ([.ref (ad i), .int x0, .long x1])).length) Slot.unset).toArray = ls at hl ⊢
  have hl : lv_has ls 4 [(0, .ref (ad i)), (1, .int x0), (2, .long x1)] := hl
  have hf : f_X1_signed i x0 x1 = (f_X1_signed_1 i x0 x1) := rfl
  refine lv_iload_n hx hb dX1_signed_0 rfl (lv_at hl 1 rfl) ?_
  refine lv_if_eq (tgt := 13) hx hb dX1_signed_1 (by decide) (fun c_1 => ?_) (fun c_1 => ?_)
  · have hf : f_X1_signed i x0 x1 = x1 := hf.trans (if_pos c_1)
    refine lv_lload_n hx hb dX1_signed_13 rfl (lv_at hl 2 rfl) ?_
    exact W.lret hx hb hr (fun t ht hW => ⟨_, rfl, hf.symm, ht⟩) (fun q hq => absurd hq List.not_mem_nil) dX1_signed_14
  · have hf : f_X1_signed i x0 x1 = ((ksgn i) ||| x1) := hf.trans (if_neg c_1)
    refine lv_aload_n hx hb dX1_signed_4 rfl (lv_at hl 0 rfl) ?_
    refine vk_getf hx hb (kE_sign hk h_i) va_S.rf hown (hts _ (zin__r3 (.fieldLink RX1 39 "ReckonBench$Kind" "sign" "J") (List.mem_of_getElem? (i := 22) rfl))) (fun _ h9 => h9) dX1_signed_5 ?_
    refine lv_lload_n hx hb dX1_signed_8 rfl (lv_at hl 2 rfl) ?_
    refine lv_lor hx hb dX1_signed_9 ?_
    refine lv_goto (tgt := 14) hx hb dX1_signed_10 (by decide) ?_
    exact W.lret hx hb hr (fun t ht hW => ⟨_, rfl, hf.symm, ht⟩) (fun q hq => absurd hq List.not_mem_nil) dX1_signed_14
def f_X1_opposite_1 (i : Nat) (x0 : Int64) : Int64 := if (f_X1_isNan i x0) = 0 then (x0 ^^^ (ksgn i)) else x0
def f_X1_opposite (i : Nat) (x0 : Int64) : Int64 := (f_X1_opposite_1 i x0)
def zX1_opposite : List Cond := .code yX1_opposite cX1_opposite 3 (some .long) :: zall
theorem iX1_opposite : MWv RX1 yX1_opposite (.code yX1_opposite cX1_opposite 3 (some .long)) := ⟨(zin__r11 (.instanceMethod yX1_opposite) (List.mem_of_getElem? (i := 1) rfl)), (zin__r11 (.selects RX1 yX1_opposite yX1_opposite) (List.mem_of_getElem? (i := 2) rfl)), (zin__r3 (.initialized RX1) (List.mem_of_getElem? (i := 20) rfl)), (zin__r11 (.code yX1_opposite cX1_opposite 3 (some .long)) (List.mem_of_getElem? (i := 3) rfl))⟩
set_option maxHeartbeats 4000000 in
set_option maxRecDepth 100000 in
theorem c_X1_opposite (l : Launch) (ad : Nat → Nat) (i : Nat) (h_i : i < 2) (x0 : Int64) : Met l yX1_opposite zX1_opposite ({ frames := 2, cells := 0, slots := 0, locals := 44 }) (va_Pc [.ref (ad i), .long x0] (fun U => kU ad U)) (vp_Sl (fun r => r = f_X1_opposite i x0)) 0 0 (fun _ => False) := by
  refine Met.ofW (cc := cX1_opposite) (maxL := 3) (ret := (some .long)) (by decide) rfl ?_
  intro p e s m args below meth c s₁ B hml hv
  obtain ⟨rfl, hk⟩ := hv
  have hx := B.exec
  have hb := B.bytes
  have hr := B.returns
  have hts : ∀ w ∈ zall, w.before _ s = true := fun w h => atoms_spec (ws := zX1_opposite) B.pre w (List.mem_cons_of_mem _ h)
  have hown : s.vm.findClass RX1 = some m.cls := findClass_of_methodNamed B.named
  have hlocks := B.notSynchronized
  have hl := lv_entry ([.ref (ad i), .long x0]) (n := 3) (Nat.le_of_ble_eq_true rfl)
  rw [lg_entry_eq]
  generalize (lg_sl ([.ref (ad i), .long x0]) ++ List.replicate (3 - (lg_sl ([.ref (ad i), .long x0])).length) Slot.unset).toArray = ls at hl ⊢
  have hl : lv_has ls 3 [(0, .ref (ad i)), (1, .long x0)] := hl
  have hf : f_X1_opposite i x0 = (f_X1_opposite_1 i x0) := rfl
  refine lv_aload_n hx hb dX1_opposite_0 rfl (lv_at hl 0 rfl) ?_
  refine lv_lload_n hx hb dX1_opposite_1 rfl (lv_at hl 1 rfl) ?_
  refine vp_callSi (va_Run.run (va_runV (As := [.long x0]) (rest := []) ⟨hx, hb, hml, hown, hts⟩ (c_X1_isNan l ad i h_i x0) (cwV 1 hts (gV iX1_isNan (zin__r4 (.methodLink RX1 49 yX1_isNan) (List.mem_of_getElem? (i := 0) rfl))) rfl rfl rfl (by decide +kernel) ⟨Nat.le_of_ble_eq_true rfl, Nat.le_of_ble_eq_true rfl⟩) ⟨fun a U g mk q => ⟨q.1, kU_bl q.2⟩, (kU_rv hk h_i), fun U hU hW => ⟨rfl, kU_mv hk hU hW⟩⟩ rfl rfl hl.1 rfl (lv_room (Nat.le_of_ble_eq_true rfl)) dX1_opposite_2 ⟨Nat.zero_le _, Nat.zero_le _⟩)) (fun r_2 hr_2 => ?_)
  subst hr_2
  refine lv_if_eq (tgt := 12) hx hb dX1_opposite_5 (by decide) (fun c_5 => ?_) (fun c_5 => ?_)
  · have hf : f_X1_opposite i x0 = (x0 ^^^ (ksgn i)) := hf.trans (if_pos c_5)
    refine lv_lload_n hx hb dX1_opposite_12 rfl (lv_at hl 1 rfl) ?_
    refine lv_aload_n hx hb dX1_opposite_13 rfl (lv_at hl 0 rfl) ?_
    refine vk_getf hx hb (kE_sign hk h_i) va_S.rf hown (hts _ (zin__r3 (.fieldLink RX1 39 "ReckonBench$Kind" "sign" "J") (List.mem_of_getElem? (i := 22) rfl))) (fun _ h9 => h9) dX1_opposite_14 ?_
    refine lv_lxor hx hb dX1_opposite_17 ?_
    exact W.lret hx hb hr (fun t ht hW => ⟨_, rfl, hf.symm, ht⟩) (fun q hq => absurd hq List.not_mem_nil) dX1_opposite_18
  · have hf : f_X1_opposite i x0 = x0 := hf.trans (if_neg c_5)
    refine lv_lload_n hx hb dX1_opposite_8 rfl (lv_at hl 1 rfl) ?_
    refine lv_goto (tgt := 18) hx hb dX1_opposite_9 (by decide) ?_
    exact W.lret hx hb hr (fun t ht hW => ⟨_, rfl, hf.symm, ht⟩) (fun q hq => absurd hq List.not_mem_nil) dX1_opposite_18
def f_X1_one (i : Nat) : Int64 := (jlshl (((jishr (ktop i) (1 : Int32))).toInt64) (kfb i))
def zX1_one : List Cond := .code yX1_one cX1_one 1 (some .long) :: zall
theorem iX1_one : MWv RX1 yX1_one (.code yX1_one cX1_one 1 (some .long)) := ⟨(zin__r10 (.instanceMethod yX1_one) (List.mem_of_getElem? (i := 8) rfl)), (zin__r10 (.selects RX1 yX1_one yX1_one) (List.mem_of_getElem? (i := 9) rfl)), (zin__r3 (.initialized RX1) (List.mem_of_getElem? (i := 20) rfl)), (zin__r10 (.code yX1_one cX1_one 1 (some .long)) (List.mem_of_getElem? (i := 10) rfl))⟩
set_option maxHeartbeats 4000000 in
set_option maxRecDepth 100000 in
theorem c_X1_one (l : Launch) (ad : Nat → Nat) (i : Nat) (h_i : i < 2) : Met l yX1_one zX1_one ({ frames := 0, cells := 0, slots := 0, locals := 0 }) (va_Pc [.ref (ad i)] (fun U => kU ad U)) (vp_Sl (fun r => r = f_X1_one i)) 0 0 (fun _ => False) := by
  refine Met.ofW (cc := cX1_one) (maxL := 1) (ret := (some .long)) (by decide) rfl ?_
  intro p e s m args below meth c s₁ B hml hv
  obtain ⟨rfl, hk⟩ := hv
  have hx := B.exec
  have hb := B.bytes
  have hr := B.returns
  have hts : ∀ w ∈ zall, w.before _ s = true := fun w h => atoms_spec (ws := zX1_one) B.pre w (List.mem_cons_of_mem _ h)
  have hown : s.vm.findClass RX1 = some m.cls := findClass_of_methodNamed B.named
  have hlocks := B.notSynchronized
  have hl := lv_entry ([.ref (ad i)]) (n := 1) (Nat.le_of_ble_eq_true rfl)
  rw [lg_entry_eq]
  generalize (lg_sl ([.ref (ad i)]) ++ List.replicate (1 - (lg_sl ([.ref (ad i)])).length) Slot.unset).toArray = ls at hl ⊢
  have hl : lv_has ls 1 [(0, .ref (ad i))] := hl
  have hf : f_X1_one i = (jlshl (((jishr (ktop i) (1 : Int32))).toInt64) (kfb i)) := rfl
  refine lv_aload_n hx hb dX1_one_0 rfl (lv_at hl 0 rfl) ?_
  refine vk_getf hx hb (kE_topField hk h_i) va_S.rf hown (hts _ (zin__r9 (.fieldLink RX1 33 "ReckonBench$Kind" "topField" "I") (List.mem_of_getElem? (i := 1) rfl))) (fun _ h9 => h9) dX1_one_1 ?_
  refine lv_iconst (v := 1) hx hb dX1_one_4 (by decide) ?_
  refine lv_ishr hx hb dX1_one_5 ?_
  refine lv_i2l (v := (((jishr (ktop i) (1 : Int32))).toInt64)) hx hb dX1_one_6 rfl ?_
  refine lv_aload_n hx hb dX1_one_7 rfl (lv_at hl 0 rfl) ?_
  refine vk_getf hx hb (kE_fractionBits hk h_i) va_S.rf hown (hts _ (zin__r9 (.fieldLink RX1 29 "ReckonBench$Kind" "fractionBits" "I") (List.mem_of_getElem? (i := 0) rfl))) (fun _ h9 => h9) dX1_one_8 ?_
  refine lv_lshl (v := (jlshl (((jishr (ktop i) (1 : Int32))).toInt64) (kfb i))) hx hb dX1_one_11 rfl ?_
  exact W.lret hx hb hr (fun t ht hW => ⟨_, rfl, hf.symm, ht⟩) (fun q hq => absurd hq List.not_mem_nil) dX1_one_12
def f_X1_sortOf_1 (i : Nat) (x0 : Int64) (w_2 : Int32) : Int32 := if (f_X1_isNegative i x0) = 0 then w_2 else (w_2 + (4 : Int32))
def f_X1_sortOf_2 (i : Nat) (x0 : Int64) (v3_1 : Int64) : Int32 := if v3_1 = (kinf i) then (f_X1_sortOf_1 i x0 (2 : Int32)) else (f_X1_sortOf_1 i x0 (1 : Int32))
def f_X1_sortOf_3 (i : Nat) (x0 : Int64) (v3_1 : Int64) : Int32 := if v3_1 = (0 : Int64) then (f_X1_sortOf_1 i x0 (0 : Int32)) else (f_X1_sortOf_2 i x0 v3_1)
def f_X1_sortOf_4 (i : Nat) (x0 : Int64) : Int32 := if (f_X1_isNan i x0) = 0 then (f_X1_sortOf_3 i x0 (f_X1_magnitude i x0)) else (3 : Int32)
def f_X1_sortOf (i : Nat) (x0 : Int64) : Int32 := (f_X1_sortOf_4 i x0)
def zX1_sortOf : List Cond := .code yX1_sortOf cX1_sortOf 6 (some .int) :: zall
theorem iX1_sortOf : MWv RX1 yX1_sortOf (.code yX1_sortOf cX1_sortOf 6 (some .int)) := ⟨(zin__r4 (.instanceMethod yX1_sortOf) (List.mem_of_getElem? (i := 14) rfl)), (zin__r4 (.selects RX1 yX1_sortOf yX1_sortOf) (List.mem_of_getElem? (i := 15) rfl)), (zin__r3 (.initialized RX1) (List.mem_of_getElem? (i := 20) rfl)), (zin__r4 (.code yX1_sortOf cX1_sortOf 6 (some .int)) (List.mem_of_getElem? (i := 16) rfl))⟩
set_option maxHeartbeats 4000000 in
set_option maxRecDepth 100000 in
theorem c_X1_sortOf (l : Launch) (ad : Nat → Nat) (i : Nat) (h_i : i < 2) (x0 : Int64) : Met l yX1_sortOf zX1_sortOf ({ frames := 2, cells := 0, slots := 0, locals := 44 }) (va_Pc [.ref (ad i), .long x0] (fun U => kU ad U)) (vp_Si (fun r => r = f_X1_sortOf i x0)) 0 0 (fun _ => False) := by
  refine Met.ofW (cc := cX1_sortOf) (maxL := 6) (ret := (some .int)) (by decide) rfl ?_
  intro p e s m args below meth c s₁ B hml hv
  obtain ⟨rfl, hk⟩ := hv
  have hx := B.exec
  have hb := B.bytes
  have hr := B.returns
  have hts : ∀ w ∈ zall, w.before _ s = true := fun w h => atoms_spec (ws := zX1_sortOf) B.pre w (List.mem_cons_of_mem _ h)
  have hown : s.vm.findClass RX1 = some m.cls := findClass_of_methodNamed B.named
  have hlocks := B.notSynchronized
  have hl := lv_entry ([.ref (ad i), .long x0]) (n := 6) (Nat.le_of_ble_eq_true rfl)
  rw [lg_entry_eq]
  generalize (lg_sl ([.ref (ad i), .long x0]) ++ List.replicate (6 - (lg_sl ([.ref (ad i), .long x0])).length) Slot.unset).toArray = ls at hl ⊢
  have hl : lv_has ls 6 [(0, .ref (ad i)), (1, .long x0)] := hl
  have hf : f_X1_sortOf i x0 = (f_X1_sortOf_4 i x0) := rfl
  refine lv_aload_n hx hb dX1_sortOf_0 rfl (lv_at hl 0 rfl) ?_
  refine lv_lload_n hx hb dX1_sortOf_1 rfl (lv_at hl 1 rfl) ?_
  refine vp_callSi (va_Run.run (va_runV (As := [.long x0]) (rest := []) ⟨hx, hb, hml, hown, hts⟩ (c_X1_isNan l ad i h_i x0) (cwV 1 hts (gV iX1_isNan (zin__r4 (.methodLink RX1 49 yX1_isNan) (List.mem_of_getElem? (i := 0) rfl))) rfl rfl rfl (by decide +kernel) ⟨Nat.le_of_ble_eq_true rfl, Nat.le_of_ble_eq_true rfl⟩) ⟨fun a U g mk q => ⟨q.1, kU_bl q.2⟩, (kU_rv hk h_i), fun U hU hW => ⟨rfl, kU_mv hk hU hW⟩⟩ rfl rfl hl.1 rfl (lv_room (Nat.le_of_ble_eq_true rfl)) dX1_sortOf_2 ⟨Nat.zero_le _, Nat.zero_le _⟩)) (fun r_2 hr_2 => ?_)
  subst hr_2
  refine lv_if_eq (tgt := 10) hx hb dX1_sortOf_5 (by decide) (fun c_5 => ?_) (fun c_5 => ?_)
  · have hf : f_X1_sortOf i x0 = (f_X1_sortOf_3 i x0 (f_X1_magnitude i x0)) := hf.trans (if_pos c_5)
    refine lv_aload_n hx hb dX1_sortOf_10 rfl (lv_at hl 0 rfl) ?_
    refine lv_lload_n hx hb dX1_sortOf_11 rfl (lv_at hl 1 rfl) ?_
    refine vp_callSl (va_Run.run (va_runV (As := [.long x0]) (rest := []) ⟨hx, hb, hml, hown, hts⟩ (c_X1_magnitude l ad i h_i x0) (cwV 1 hts (gV iX1_magnitude (zin__r4 (.methodLink RX1 53 yX1_magnitude) (List.mem_of_getElem? (i := 5) rfl))) rfl rfl rfl (by decide +kernel) ⟨Nat.le_of_ble_eq_true rfl, Nat.le_of_ble_eq_true rfl⟩) ⟨fun a U g mk q => ⟨q.1, kU_bl q.2⟩, (kU_rv hk h_i), fun U hU hW => ⟨rfl, kU_mv hk hU hW⟩⟩ rfl rfl hl.1 rfl (lv_room (Nat.le_of_ble_eq_true rfl)) dX1_sortOf_12 ⟨Nat.zero_le _, Nat.zero_le _⟩)) (fun r_12 hr_12 => ?_)
    subst hr_12
    refine lv_topl (fun v3_1 e_v3_1 => ?_)
    have hf : f_X1_sortOf i x0 = (f_X1_sortOf_3 i x0 v3_1) := hf.trans (congrArg (fun z => (f_X1_sortOf_3 i x0 z)) e_v3_1.symm)
    refine lv_lstore_n (lv' := [(3, .long v3_1), (0, .ref (ad i)), (1, .long x0)]) hx hb dX1_sortOf_15 rfl hl (by decide) rfl (fun ls hl => ?_)
    refine lv_lload_n hx hb dX1_sortOf_16 rfl (lv_at hl 0 rfl) ?_
    refine lv_lconst (v := 0) hx hb dX1_sortOf_17 (by decide) ?_
    refine W.lcmp hx hb dX1_sortOf_18 ?_
    refine W_cut (α := Int32) (pcJ := 40) (nL := 6) (fun v => f_X1_sortOf i x0 = (f_X1_sortOf_1 i x0 v)) (fun v => [.int v]) (fun v => [(0, .ref (ad i)), (1, .long x0)]) (fun w_2 ls hf hl => ?_) (fun K_40 => ?_)
    · have hf : f_X1_sortOf i x0 = (f_X1_sortOf_1 i x0 w_2) := hf
      have hl : lv_has ls 6 [(0, .ref (ad i)), (1, .long x0)] := hl
      refine lv_istore (lv' := [(5, .int w_2), (0, .ref (ad i)), (1, .long x0)]) hx hb dX1_sortOf_40 hl (by decide) rfl (fun ls hl => ?_)
      refine lv_aload_n hx hb dX1_sortOf_42 rfl (lv_at hl 1 rfl) ?_
      refine lv_lload_n hx hb dX1_sortOf_43 rfl (lv_at hl 2 rfl) ?_
      refine vp_callSi (va_Run.run (va_runV (As := [.long x0]) (rest := []) ⟨hx, hb, hml, hown, hts⟩ (c_X1_isNegative l ad i h_i x0) (cwV 1 hts (gV iX1_isNegative (zin__r4 (.methodLink RX1 57 yX1_isNegative) (List.mem_of_getElem? (i := 17) rfl))) rfl rfl rfl (by decide +kernel) ⟨Nat.le_of_ble_eq_true rfl, Nat.le_of_ble_eq_true rfl⟩) ⟨fun a U g mk q => ⟨q.1, kU_bl q.2⟩, (kU_rv hk h_i), fun U hU hW => ⟨rfl, kU_mv hk hU hW⟩⟩ rfl rfl hl.1 rfl (lv_room (Nat.le_of_ble_eq_true rfl)) dX1_sortOf_44 ⟨Nat.zero_le _, Nat.zero_le _⟩)) (fun r_44 hr_44 => ?_)
      subst hr_44
      refine lv_if_eq (tgt := 57) hx hb dX1_sortOf_47 (by decide) (fun c_47 => ?_) (fun c_47 => ?_)
      · have hf : f_X1_sortOf i x0 = w_2 := hf.trans (if_pos c_47)
        refine lv_iload hx hb dX1_sortOf_57 (lv_at hl 0 rfl) ?_
        exact W.iret hx hb hr (fun t ht hW => ⟨_, rfl, hf.symm, ht⟩) (fun q hq => absurd hq List.not_mem_nil) dX1_sortOf_59
      · have hf : f_X1_sortOf i x0 = (w_2 + (4 : Int32)) := hf.trans (if_neg c_47)
        refine lv_iload hx hb dX1_sortOf_50 (lv_at hl 0 rfl) ?_
        refine lv_iconst (v := 4) hx hb dX1_sortOf_52 (by decide) ?_
        refine lv_iadd hx hb dX1_sortOf_53 ?_
        refine lv_goto (tgt := 59) hx hb dX1_sortOf_54 (by decide) ?_
        exact W.iret hx hb hr (fun t ht hW => ⟨_, rfl, hf.symm, ht⟩) (fun q hq => absurd hq List.not_mem_nil) dX1_sortOf_59
    refine lv_if_ne (tgt := 26) hx hb dX1_sortOf_19 (by decide) (fun c_19 => ?_) (fun c_19 => ?_)
    · have c_19 : ¬ (v3_1 = (0 : Int64)) := fun h9 => c_19 ((lg_cmp_eq v3_1 (0 : Int64)).mpr h9)
      have hf : f_X1_sortOf i x0 = (f_X1_sortOf_2 i x0 v3_1) := hf.trans (if_neg c_19)
      refine lv_lload_n hx hb dX1_sortOf_26 rfl (lv_at hl 0 rfl) ?_
      refine lv_aload_n hx hb dX1_sortOf_27 rfl (lv_at hl 1 rfl) ?_
      refine vk_getf hx hb (kE_infinite hk h_i) va_S.rf hown (hts _ (zin__r4 (.fieldLink RX1 43 "ReckonBench$Kind" "infinite" "J") (List.mem_of_getElem? (i := 4) rfl))) (fun _ h9 => h9) dX1_sortOf_28 ?_
      refine W.lcmp hx hb dX1_sortOf_31 ?_
      refine lv_if_ne (tgt := 39) hx hb dX1_sortOf_32 (by decide) (fun c_32 => ?_) (fun c_32 => ?_)
      · have c_32 : ¬ (v3_1 = (kinf i)) := fun h9 => c_32 ((lg_cmp_eq v3_1 (kinf i)).mpr h9)
        have hf : f_X1_sortOf i x0 = (f_X1_sortOf_1 i x0 (1 : Int32)) := hf.trans (if_neg c_32)
        refine lv_iconst (v := 1) hx hb dX1_sortOf_39 (by decide) ?_
        exact K_40 (1 : Int32) ls hf (lv_sub hl [1, 2] rfl)
      · have c_32 : v3_1 = (kinf i) := (lg_cmp_eq v3_1 (kinf i)).mp c_32
        have hf : f_X1_sortOf i x0 = (f_X1_sortOf_1 i x0 (2 : Int32)) := hf.trans (if_pos c_32)
        refine lv_iconst (v := 2) hx hb dX1_sortOf_35 (by decide) ?_
        refine lv_goto (tgt := 40) hx hb dX1_sortOf_36 (by decide) ?_
        exact K_40 (2 : Int32) ls hf (lv_sub hl [1, 2] rfl)
    · have c_19 : v3_1 = (0 : Int64) := (lg_cmp_eq v3_1 (0 : Int64)).mp c_19
      have hf : f_X1_sortOf i x0 = (f_X1_sortOf_1 i x0 (0 : Int32)) := hf.trans (if_pos c_19)
      refine lv_iconst (v := 0) hx hb dX1_sortOf_22 (by decide) ?_
      refine lv_goto (tgt := 40) hx hb dX1_sortOf_23 (by decide) ?_
      exact K_40 (0 : Int32) ls hf (lv_sub hl [1, 2] rfl)
  · have hf : f_X1_sortOf i x0 = (3 : Int32) := hf.trans (if_neg c_5)
    refine lv_iconst (v := 3) hx hb dX1_sortOf_8 (by decide) ?_
    exact W.iret hx hb hr (fun t ht hW => ⟨_, rfl, hf.symm, ht⟩) (fun q hq => absurd hq List.not_mem_nil) dX1_sortOf_9
def f_X1_exponentField (i : Nat) (x0 : Int64) : Int32 := ((((jlushr x0 (kfb i))).toInt32) &&& (ktop i))
def zX1_exponentField : List Cond := .code yX1_exponentField cX1_exponentField 3 (some .int) :: zall
theorem iX1_exponentField : MWv RX1 yX1_exponentField (.code yX1_exponentField cX1_exponentField 3 (some .int)) := ⟨(zin__r8 (.instanceMethod yX1_exponentField) (List.mem_of_getElem? (i := 21) rfl)), (zin__r8 (.selects RX1 yX1_exponentField yX1_exponentField) (List.mem_of_getElem? (i := 22) rfl)), (zin__r3 (.initialized RX1) (List.mem_of_getElem? (i := 20) rfl)), (zin__r8 (.code yX1_exponentField cX1_exponentField 3 (some .int)) (List.mem_of_getElem? (i := 23) rfl))⟩
set_option maxHeartbeats 4000000 in
set_option maxRecDepth 100000 in
theorem c_X1_exponentField (l : Launch) (ad : Nat → Nat) (i : Nat) (h_i : i < 2) (x0 : Int64) : Met l yX1_exponentField zX1_exponentField ({ frames := 0, cells := 0, slots := 0, locals := 0 }) (va_Pc [.ref (ad i), .long x0] (fun U => kU ad U)) (vp_Si (fun r => r = f_X1_exponentField i x0)) 0 0 (fun _ => False) := by
  refine Met.ofW (cc := cX1_exponentField) (maxL := 3) (ret := (some .int)) (by decide) rfl ?_
  intro p e s m args below meth c s₁ B hml hv
  obtain ⟨rfl, hk⟩ := hv
  have hx := B.exec
  have hb := B.bytes
  have hr := B.returns
  have hts : ∀ w ∈ zall, w.before _ s = true := fun w h => atoms_spec (ws := zX1_exponentField) B.pre w (List.mem_cons_of_mem _ h)
  have hown : s.vm.findClass RX1 = some m.cls := findClass_of_methodNamed B.named
  have hlocks := B.notSynchronized
  have hl := lv_entry ([.ref (ad i), .long x0]) (n := 3) (Nat.le_of_ble_eq_true rfl)
  rw [lg_entry_eq]
  generalize (lg_sl ([.ref (ad i), .long x0]) ++ List.replicate (3 - (lg_sl ([.ref (ad i), .long x0])).length) Slot.unset).toArray = ls at hl ⊢
  have hl : lv_has ls 3 [(0, .ref (ad i)), (1, .long x0)] := hl
  have hf : f_X1_exponentField i x0 = ((((jlushr x0 (kfb i))).toInt32) &&& (ktop i)) := rfl
  refine lv_lload_n hx hb dX1_exponentField_0 rfl (lv_at hl 1 rfl) ?_
  refine lv_aload_n hx hb dX1_exponentField_1 rfl (lv_at hl 0 rfl) ?_
  refine vk_getf hx hb (kE_fractionBits hk h_i) va_S.rf hown (hts _ (zin__r9 (.fieldLink RX1 29 "ReckonBench$Kind" "fractionBits" "I") (List.mem_of_getElem? (i := 0) rfl))) (fun _ h9 => h9) dX1_exponentField_2 ?_
  refine lv_lushr (v := (jlushr x0 (kfb i))) hx hb dX1_exponentField_5 rfl ?_
  refine lv_l2i (v := (((jlushr x0 (kfb i))).toInt32)) hx hb dX1_exponentField_6 rfl ?_
  refine lv_aload_n hx hb dX1_exponentField_7 rfl (lv_at hl 0 rfl) ?_
  refine vk_getf hx hb (kE_topField hk h_i) va_S.rf hown (hts _ (zin__r9 (.fieldLink RX1 33 "ReckonBench$Kind" "topField" "I") (List.mem_of_getElem? (i := 1) rfl))) (fun _ h9 => h9) dX1_exponentField_8 ?_
  refine lv_iand hx hb dX1_exponentField_11 ?_
  exact W.iret hx hb hr (fun t ht hW => ⟨_, rfl, hf.symm, ht⟩) (fun q hq => absurd hq List.not_mem_nil) dX1_exponentField_12
def f_X1_significand_1 (i : Nat) (x0 : Int64) (v3_1 : Int64) (v5_2 : Int64) : Int64 := if (f_X1_exponentField i x0) = 0 then v5_2 else (v5_2 ||| v3_1)
def f_X1_significand_2 (i : Nat) (x0 : Int64) (v3_1 : Int64) : Int64 := (f_X1_significand_1 i x0 v3_1 (x0 &&& (v3_1 - (1 : Int64))))
def f_X1_significand (i : Nat) (x0 : Int64) : Int64 := (f_X1_significand_2 i x0 (jlshl (1 : Int64) (kfb i)))
def zX1_significand : List Cond := .code yX1_significand cX1_significand 7 (some .long) :: zall
theorem iX1_significand : MWv RX1 yX1_significand (.code yX1_significand cX1_significand 7 (some .long)) := ⟨(zin__r9 (.instanceMethod yX1_significand) (List.mem_of_getElem? (i := 8) rfl)), (zin__r9 (.selects RX1 yX1_significand yX1_significand) (List.mem_of_getElem? (i := 9) rfl)), (zin__r3 (.initialized RX1) (List.mem_of_getElem? (i := 20) rfl)), (zin__r9 (.code yX1_significand cX1_significand 7 (some .long)) (List.mem_of_getElem? (i := 10) rfl))⟩
set_option maxHeartbeats 4000000 in
set_option maxRecDepth 100000 in
theorem c_X1_significand (l : Launch) (ad : Nat → Nat) (i : Nat) (h_i : i < 2) (x0 : Int64) : Met l yX1_significand zX1_significand ({ frames := 1, cells := 0, slots := 0, locals := 22 }) (va_Pc [.ref (ad i), .long x0] (fun U => kU ad U)) (vp_Sl (fun r => r = f_X1_significand i x0)) 0 0 (fun _ => False) := by
  refine Met.ofW (cc := cX1_significand) (maxL := 7) (ret := (some .long)) (by decide) rfl ?_
  intro p e s m args below meth c s₁ B hml hv
  obtain ⟨rfl, hk⟩ := hv
  have hx := B.exec
  have hb := B.bytes
  have hr := B.returns
  have hts : ∀ w ∈ zall, w.before _ s = true := fun w h => atoms_spec (ws := zX1_significand) B.pre w (List.mem_cons_of_mem _ h)
  have hown : s.vm.findClass RX1 = some m.cls := findClass_of_methodNamed B.named
  have hlocks := B.notSynchronized
  have hl := lv_entry ([.ref (ad i), .long x0]) (n := 7) (Nat.le_of_ble_eq_true rfl)
  rw [lg_entry_eq]
  generalize (lg_sl ([.ref (ad i), .long x0]) ++ List.replicate (7 - (lg_sl ([.ref (ad i), .long x0])).length) Slot.unset).toArray = ls at hl ⊢
  have hl : lv_has ls 7 [(0, .ref (ad i)), (1, .long x0)] := hl
  have hf : f_X1_significand i x0 = (f_X1_significand_2 i x0 (jlshl (1 : Int64) (kfb i))) := rfl
  refine lv_lconst (v := 1) hx hb dX1_significand_0 (by decide) ?_
  refine lv_aload_n hx hb dX1_significand_1 rfl (lv_at hl 0 rfl) ?_
  refine vk_getf hx hb (kE_fractionBits hk h_i) va_S.rf hown (hts _ (zin__r9 (.fieldLink RX1 29 "ReckonBench$Kind" "fractionBits" "I") (List.mem_of_getElem? (i := 0) rfl))) (fun _ h9 => h9) dX1_significand_2 ?_
  refine lv_lshl (v := (jlshl (1 : Int64) (kfb i))) hx hb dX1_significand_5 rfl ?_
  refine lv_topl (fun v3_1 e_v3_1 => ?_)
  have hf : f_X1_significand i x0 = (f_X1_significand_2 i x0 v3_1) := hf.trans (congrArg (fun z => (f_X1_significand_2 i x0 z)) e_v3_1.symm)
  refine lv_lstore_n (lv' := [(3, .long v3_1), (0, .ref (ad i)), (1, .long x0)]) hx hb dX1_significand_6 rfl hl (by decide) rfl (fun ls hl => ?_)
  refine lv_lload_n hx hb dX1_significand_7 rfl (lv_at hl 2 rfl) ?_
  refine lv_lload_n hx hb dX1_significand_8 rfl (lv_at hl 0 rfl) ?_
  refine lv_lconst (v := 1) hx hb dX1_significand_9 (by decide) ?_
  refine lv_lsub hx hb dX1_significand_10 ?_
  refine lv_land hx hb dX1_significand_11 ?_
  refine lv_topl (fun v5_2 e_v5_2 => ?_)
  have hf : f_X1_significand i x0 = (f_X1_significand_1 i x0 v3_1 v5_2) := hf.trans (congrArg (fun z => (f_X1_significand_1 i x0 v3_1 z)) e_v5_2.symm)
  refine lv_lstore (lv' := [(5, .long v5_2), (3, .long v3_1), (0, .ref (ad i)), (1, .long x0)]) hx hb dX1_significand_12 hl (by decide) rfl (fun ls hl => ?_)
  refine lv_aload_n hx hb dX1_significand_14 rfl (lv_at hl 2 rfl) ?_
  refine lv_lload_n hx hb dX1_significand_15 rfl (lv_at hl 3 rfl) ?_
  refine vp_callSi (va_Run.run (va_runV (As := [.long x0]) (rest := []) ⟨hx, hb, hml, hown, hts⟩ (c_X1_exponentField l ad i h_i x0) (cwV 1 hts (gV iX1_exponentField (zin__r8 (.methodLink RX1 60 yX1_exponentField) (List.mem_of_getElem? (i := 20) rfl))) rfl rfl rfl (by decide +kernel) ⟨Nat.le_of_ble_eq_true rfl, Nat.le_of_ble_eq_true rfl⟩) ⟨fun a U g mk q => ⟨q.1, kU_bl q.2⟩, (kU_rv hk h_i), fun U hU hW => ⟨rfl, kU_mv hk hU hW⟩⟩ rfl rfl hl.1 rfl (lv_room (Nat.le_of_ble_eq_true rfl)) dX1_significand_16 ⟨Nat.zero_le _, Nat.zero_le _⟩)) (fun r_16 hr_16 => ?_)
  subst hr_16
  refine lv_if_ne (tgt := 27) hx hb dX1_significand_19 (by decide) (fun c_19 => ?_) (fun c_19 => ?_)
  · have hf : f_X1_significand i x0 = (v5_2 ||| v3_1) := hf.trans (if_neg c_19)
    refine lv_lload hx hb dX1_significand_27 (lv_at hl 0 rfl) ?_
    refine lv_lload_n hx hb dX1_significand_29 rfl (lv_at hl 1 rfl) ?_
    refine lv_lor hx hb dX1_significand_30 ?_
    exact W.lret hx hb hr (fun t ht hW => ⟨_, rfl, hf.symm, ht⟩) (fun q hq => absurd hq List.not_mem_nil) dX1_significand_31
  · have hf : f_X1_significand i x0 = v5_2 := hf.trans (if_pos c_19)
    refine lv_lload hx hb dX1_significand_22 (lv_at hl 0 rfl) ?_
    refine lv_goto (tgt := 31) hx hb dX1_significand_24 (by decide) ?_
    exact W.lret hx hb hr (fun t ht hW => ⟨_, rfl, hf.symm, ht⟩) (fun q hq => absurd hq List.not_mem_nil) dX1_significand_31
def f_X1_exponent (i : Nat) (x0 : Int64) : Int32 := (((jmaxI (f_X1_exponentField i x0) (1 : Int32)) - (1 : Int32)) + (klow i))
def zX1_exponent : List Cond := .code yX1_exponent cX1_exponent 3 (some .int) :: zall
theorem iX1_exponent : MWv RX1 yX1_exponent (.code yX1_exponent cX1_exponent 3 (some .int)) := ⟨(zin__r8 (.instanceMethod yX1_exponent) (List.mem_of_getElem? (i := 13) rfl)), (zin__r8 (.selects RX1 yX1_exponent yX1_exponent) (List.mem_of_getElem? (i := 14) rfl)), (zin__r3 (.initialized RX1) (List.mem_of_getElem? (i := 20) rfl)), (zin__r8 (.code yX1_exponent cX1_exponent 3 (some .int)) (List.mem_of_getElem? (i := 15) rfl))⟩
set_option maxHeartbeats 4000000 in
set_option maxRecDepth 100000 in
theorem c_X1_exponent (l : Launch) (ad : Nat → Nat) (i : Nat) (h_i : i < 2) (x0 : Int64) : Met l yX1_exponent zX1_exponent ({ frames := 1, cells := 0, slots := 0, locals := 22 }) (va_Pc [.ref (ad i), .long x0] (fun U => kU ad U)) (vp_Si (fun r => r = f_X1_exponent i x0)) 0 0 (fun _ => False) := by
  refine Met.ofW (cc := cX1_exponent) (maxL := 3) (ret := (some .int)) (by decide) rfl ?_
  intro p e s m args below meth c s₁ B hml hv
  obtain ⟨rfl, hk⟩ := hv
  have hx := B.exec
  have hb := B.bytes
  have hr := B.returns
  have hts : ∀ w ∈ zall, w.before _ s = true := fun w h => atoms_spec (ws := zX1_exponent) B.pre w (List.mem_cons_of_mem _ h)
  have hown : s.vm.findClass RX1 = some m.cls := findClass_of_methodNamed B.named
  have hlocks := B.notSynchronized
  have hl := lv_entry ([.ref (ad i), .long x0]) (n := 3) (Nat.le_of_ble_eq_true rfl)
  rw [lg_entry_eq]
  generalize (lg_sl ([.ref (ad i), .long x0]) ++ List.replicate (3 - (lg_sl ([.ref (ad i), .long x0])).length) Slot.unset).toArray = ls at hl ⊢
  have hl : lv_has ls 3 [(0, .ref (ad i)), (1, .long x0)] := hl
  have hf : f_X1_exponent i x0 = (((jmaxI (f_X1_exponentField i x0) (1 : Int32)) - (1 : Int32)) + (klow i)) := rfl
  refine lv_aload_n hx hb dX1_exponent_0 rfl (lv_at hl 0 rfl) ?_
  refine lv_lload_n hx hb dX1_exponent_1 rfl (lv_at hl 1 rfl) ?_
  refine vp_callSi (va_Run.run (va_runV (As := [.long x0]) (rest := []) ⟨hx, hb, hml, hown, hts⟩ (c_X1_exponentField l ad i h_i x0) (cwV 1 hts (gV iX1_exponentField (zin__r8 (.methodLink RX1 60 yX1_exponentField) (List.mem_of_getElem? (i := 20) rfl))) rfl rfl rfl (by decide +kernel) ⟨Nat.le_of_ble_eq_true rfl, Nat.le_of_ble_eq_true rfl⟩) ⟨fun a U g mk q => ⟨q.1, kU_bl q.2⟩, (kU_rv hk h_i), fun U hU hW => ⟨rfl, kU_mv hk hU hW⟩⟩ rfl rfl hl.1 rfl (lv_room (Nat.le_of_ble_eq_true rfl)) dX1_exponent_2 ⟨Nat.zero_le _, Nat.zero_le _⟩)) (fun r_2 hr_2 => ?_)
  subst hr_2
  refine lv_iconst (v := 1) hx hb dX1_exponent_5 (by decide) ?_
  refine va_mmax hx hb (hml.trans hl.1.symm) hown (hts _ (zin__r8 (.methodLink RX1 64 Lib.Math.max.name) (List.mem_of_getElem? (i := 16) rfl))) (hts _ (zin__r8 (.static Lib.Math.max.name) (List.mem_of_getElem? (i := 17) rfl))) (hts _ (zin__r8 (.initialized "java/lang/Math") (List.mem_of_getElem? (i := 10) rfl))) (hts _ (zin__r8 (.code Lib.Math.max.name Lib.Math.max.code 2 (some .int)) (List.mem_of_getElem? (i := 18) rfl))) (Nat.le_of_ble_eq_true rfl) (Nat.le_of_ble_eq_true rfl) (Nat.zero_le _) (Nat.zero_le _) dX1_exponent_6 ?_
  refine lv_iconst (v := 1) hx hb dX1_exponent_9 (by decide) ?_
  refine lv_isub hx hb dX1_exponent_10 ?_
  refine lv_aload_n hx hb dX1_exponent_11 rfl (lv_at hl 0 rfl) ?_
  refine vk_getf hx hb (kE_lowest hk h_i) va_S.rf hown (hts _ (zin__r8 (.fieldLink RX1 36 "ReckonBench$Kind" "lowest" "I") (List.mem_of_getElem? (i := 19) rfl))) (fun _ h9 => h9) dX1_exponent_12 ?_
  refine lv_iadd hx hb dX1_exponent_15 ?_
  exact W.iret hx hb hr (fun t ht hW => ⟨_, rfl, hf.symm, ht⟩) (fun q hq => absurd hq List.not_mem_nil) dX1_exponent_16
def f_X1_valueRank_1 (i : Nat) (x0 : Int64) : Int64 := if (f_X1_isNegative i x0) = 0 then (f_X1_magnitude i x0) else (-(f_X1_magnitude i x0))
def f_X1_valueRank (i : Nat) (x0 : Int64) : Int64 := (f_X1_valueRank_1 i x0)
def zX1_valueRank : List Cond := .code yX1_valueRank cX1_valueRank 3 (some .long) :: zall
theorem iX1_valueRank : MWv RX1 yX1_valueRank (.code yX1_valueRank cX1_valueRank 3 (some .long)) := ⟨(zin__r5 (.instanceMethod yX1_valueRank) (List.mem_of_getElem? (i := 14) rfl)), (zin__r5 (.selects RX1 yX1_valueRank yX1_valueRank) (List.mem_of_getElem? (i := 15) rfl)), (zin__r3 (.initialized RX1) (List.mem_of_getElem? (i := 20) rfl)), (zin__r5 (.code yX1_valueRank cX1_valueRank 3 (some .long)) (List.mem_of_getElem? (i := 16) rfl))⟩
set_option maxHeartbeats 4000000 in
set_option maxRecDepth 100000 in
theorem c_X1_valueRank (l : Launch) (ad : Nat → Nat) (i : Nat) (h_i : i < 2) (x0 : Int64) : Met l yX1_valueRank zX1_valueRank ({ frames := 1, cells := 0, slots := 0, locals := 22 }) (va_Pc [.ref (ad i), .long x0] (fun U => kU ad U)) (vp_Sl (fun r => r = f_X1_valueRank i x0)) 0 0 (fun _ => False) := by
  refine Met.ofW (cc := cX1_valueRank) (maxL := 3) (ret := (some .long)) (by decide) rfl ?_
  intro p e s m args below meth c s₁ B hml hv
  obtain ⟨rfl, hk⟩ := hv
  have hx := B.exec
  have hb := B.bytes
  have hr := B.returns
  have hts : ∀ w ∈ zall, w.before _ s = true := fun w h => atoms_spec (ws := zX1_valueRank) B.pre w (List.mem_cons_of_mem _ h)
  have hown : s.vm.findClass RX1 = some m.cls := findClass_of_methodNamed B.named
  have hlocks := B.notSynchronized
  have hl := lv_entry ([.ref (ad i), .long x0]) (n := 3) (Nat.le_of_ble_eq_true rfl)
  rw [lg_entry_eq]
  generalize (lg_sl ([.ref (ad i), .long x0]) ++ List.replicate (3 - (lg_sl ([.ref (ad i), .long x0])).length) Slot.unset).toArray = ls at hl ⊢
  have hl : lv_has ls 3 [(0, .ref (ad i)), (1, .long x0)] := hl
  have hf : f_X1_valueRank i x0 = (f_X1_valueRank_1 i x0) := rfl
  refine lv_aload_n hx hb dX1_valueRank_0 rfl (lv_at hl 0 rfl) ?_
  refine lv_lload_n hx hb dX1_valueRank_1 rfl (lv_at hl 1 rfl) ?_
  refine vp_callSi (va_Run.run (va_runV (As := [.long x0]) (rest := []) ⟨hx, hb, hml, hown, hts⟩ (c_X1_isNegative l ad i h_i x0) (cwV 1 hts (gV iX1_isNegative (zin__r4 (.methodLink RX1 57 yX1_isNegative) (List.mem_of_getElem? (i := 17) rfl))) rfl rfl rfl (by decide +kernel) ⟨Nat.le_of_ble_eq_true rfl, Nat.le_of_ble_eq_true rfl⟩) ⟨fun a U g mk q => ⟨q.1, kU_bl q.2⟩, (kU_rv hk h_i), fun U hU hW => ⟨rfl, kU_mv hk hU hW⟩⟩ rfl rfl hl.1 rfl (lv_room (Nat.le_of_ble_eq_true rfl)) dX1_valueRank_2 ⟨Nat.zero_le _, Nat.zero_le _⟩)) (fun r_2 hr_2 => ?_)
  subst hr_2
  refine lv_if_eq (tgt := 17) hx hb dX1_valueRank_5 (by decide) (fun c_5 => ?_) (fun c_5 => ?_)
  · have hf : f_X1_valueRank i x0 = (f_X1_magnitude i x0) := hf.trans (if_pos c_5)
    refine lv_aload_n hx hb dX1_valueRank_17 rfl (lv_at hl 0 rfl) ?_
    refine lv_lload_n hx hb dX1_valueRank_18 rfl (lv_at hl 1 rfl) ?_
    refine vp_callSl (va_Run.run (va_runV (As := [.long x0]) (rest := []) ⟨hx, hb, hml, hown, hts⟩ (c_X1_magnitude l ad i h_i x0) (cwV 1 hts (gV iX1_magnitude (zin__r4 (.methodLink RX1 53 yX1_magnitude) (List.mem_of_getElem? (i := 5) rfl))) rfl rfl rfl (by decide +kernel) ⟨Nat.le_of_ble_eq_true rfl, Nat.le_of_ble_eq_true rfl⟩) ⟨fun a U g mk q => ⟨q.1, kU_bl q.2⟩, (kU_rv hk h_i), fun U hU hW => ⟨rfl, kU_mv hk hU hW⟩⟩ rfl rfl hl.1 rfl (lv_room (Nat.le_of_ble_eq_true rfl)) dX1_valueRank_19 ⟨Nat.zero_le _, Nat.zero_le _⟩)) (fun r_19 hr_19 => ?_)
    subst hr_19
    exact W.lret hx hb hr (fun t ht hW => ⟨_, rfl, hf.symm, ht⟩) (fun q hq => absurd hq List.not_mem_nil) dX1_valueRank_22
  · have hf : f_X1_valueRank i x0 = (-(f_X1_magnitude i x0)) := hf.trans (if_neg c_5)
    refine lv_aload_n hx hb dX1_valueRank_8 rfl (lv_at hl 0 rfl) ?_
    refine lv_lload_n hx hb dX1_valueRank_9 rfl (lv_at hl 1 rfl) ?_
    refine vp_callSl (va_Run.run (va_runV (As := [.long x0]) (rest := []) ⟨hx, hb, hml, hown, hts⟩ (c_X1_magnitude l ad i h_i x0) (cwV 1 hts (gV iX1_magnitude (zin__r4 (.methodLink RX1 53 yX1_magnitude) (List.mem_of_getElem? (i := 5) rfl))) rfl rfl rfl (by decide +kernel) ⟨Nat.le_of_ble_eq_true rfl, Nat.le_of_ble_eq_true rfl⟩) ⟨fun a U g mk q => ⟨q.1, kU_bl q.2⟩, (kU_rv hk h_i), fun U hU hW => ⟨rfl, kU_mv hk hU hW⟩⟩ rfl rfl hl.1 rfl (lv_room (Nat.le_of_ble_eq_true rfl)) dX1_valueRank_10 ⟨Nat.zero_le _, Nat.zero_le _⟩)) (fun r_10 hr_10 => ?_)
    subst hr_10
    refine lv_lneg hx hb dX1_valueRank_13 ?_
    refine lv_goto (tgt := 22) hx hb dX1_valueRank_14 (by decide) ?_
    exact W.lret hx hb hr (fun t ht hW => ⟨_, rfl, hf.symm, ht⟩) (fun q hq => absurd hq List.not_mem_nil) dX1_valueRank_22
def f_X1_totalRank_1 (i : Nat) (x0 : Int64) : Int64 := if (f_X1_isNegative i x0) = 0 then (f_X1_magnitude i x0) else ((-1 : Int64) - (f_X1_magnitude i x0))
def f_X1_totalRank (i : Nat) (x0 : Int64) : Int64 := (f_X1_totalRank_1 i x0)
def zX1_totalRank : List Cond := .code yX1_totalRank cX1_totalRank 3 (some .long) :: zall
theorem iX1_totalRank : MWv RX1 yX1_totalRank (.code yX1_totalRank cX1_totalRank 3 (some .long)) := ⟨(zin__r6 (.instanceMethod yX1_totalRank) (List.mem_of_getElem? (i := 2) rfl)), (zin__r6 (.selects RX1 yX1_totalRank yX1_totalRank) (List.mem_of_getElem? (i := 3) rfl)), (zin__r3 (.initialized RX1) (List.mem_of_getElem? (i := 20) rfl)), (zin__r6 (.code yX1_totalRank cX1_totalRank 3 (some .long)) (List.mem_of_getElem? (i := 4) rfl))⟩
set_option maxHeartbeats 4000000 in
set_option maxRecDepth 100000 in
theorem c_X1_totalRank (l : Launch) (ad : Nat → Nat) (i : Nat) (h_i : i < 2) (x0 : Int64) : Met l yX1_totalRank zX1_totalRank ({ frames := 1, cells := 0, slots := 0, locals := 22 }) (va_Pc [.ref (ad i), .long x0] (fun U => kU ad U)) (vp_Sl (fun r => r = f_X1_totalRank i x0)) 0 0 (fun _ => False) := by
  refine Met.ofW (cc := cX1_totalRank) (maxL := 3) (ret := (some .long)) (by decide) rfl ?_
  intro p e s m args below meth c s₁ B hml hv
  obtain ⟨rfl, hk⟩ := hv
  have hx := B.exec
  have hb := B.bytes
  have hr := B.returns
  have hts : ∀ w ∈ zall, w.before _ s = true := fun w h => atoms_spec (ws := zX1_totalRank) B.pre w (List.mem_cons_of_mem _ h)
  have hown : s.vm.findClass RX1 = some m.cls := findClass_of_methodNamed B.named
  have hlocks := B.notSynchronized
  have hl := lv_entry ([.ref (ad i), .long x0]) (n := 3) (Nat.le_of_ble_eq_true rfl)
  rw [lg_entry_eq]
  generalize (lg_sl ([.ref (ad i), .long x0]) ++ List.replicate (3 - (lg_sl ([.ref (ad i), .long x0])).length) Slot.unset).toArray = ls at hl ⊢
  have hl : lv_has ls 3 [(0, .ref (ad i)), (1, .long x0)] := hl
  have hf : f_X1_totalRank i x0 = (f_X1_totalRank_1 i x0) := rfl
  refine lv_aload_n hx hb dX1_totalRank_0 rfl (lv_at hl 0 rfl) ?_
  refine lv_lload_n hx hb dX1_totalRank_1 rfl (lv_at hl 1 rfl) ?_
  refine vp_callSi (va_Run.run (va_runV (As := [.long x0]) (rest := []) ⟨hx, hb, hml, hown, hts⟩ (c_X1_isNegative l ad i h_i x0) (cwV 1 hts (gV iX1_isNegative (zin__r4 (.methodLink RX1 57 yX1_isNegative) (List.mem_of_getElem? (i := 17) rfl))) rfl rfl rfl (by decide +kernel) ⟨Nat.le_of_ble_eq_true rfl, Nat.le_of_ble_eq_true rfl⟩) ⟨fun a U g mk q => ⟨q.1, kU_bl q.2⟩, (kU_rv hk h_i), fun U hU hW => ⟨rfl, kU_mv hk hU hW⟩⟩ rfl rfl hl.1 rfl (lv_room (Nat.le_of_ble_eq_true rfl)) dX1_totalRank_2 ⟨Nat.zero_le _, Nat.zero_le _⟩)) (fun r_2 hr_2 => ?_)
  subst hr_2
  refine lv_if_eq (tgt := 20) hx hb dX1_totalRank_5 (by decide) (fun c_5 => ?_) (fun c_5 => ?_)
  · have hf : f_X1_totalRank i x0 = (f_X1_magnitude i x0) := hf.trans (if_pos c_5)
    refine lv_aload_n hx hb dX1_totalRank_20 rfl (lv_at hl 0 rfl) ?_
    refine lv_lload_n hx hb dX1_totalRank_21 rfl (lv_at hl 1 rfl) ?_
    refine vp_callSl (va_Run.run (va_runV (As := [.long x0]) (rest := []) ⟨hx, hb, hml, hown, hts⟩ (c_X1_magnitude l ad i h_i x0) (cwV 1 hts (gV iX1_magnitude (zin__r4 (.methodLink RX1 53 yX1_magnitude) (List.mem_of_getElem? (i := 5) rfl))) rfl rfl rfl (by decide +kernel) ⟨Nat.le_of_ble_eq_true rfl, Nat.le_of_ble_eq_true rfl⟩) ⟨fun a U g mk q => ⟨q.1, kU_bl q.2⟩, (kU_rv hk h_i), fun U hU hW => ⟨rfl, kU_mv hk hU hW⟩⟩ rfl rfl hl.1 rfl (lv_room (Nat.le_of_ble_eq_true rfl)) dX1_totalRank_22 ⟨Nat.zero_le _, Nat.zero_le _⟩)) (fun r_22 hr_22 => ?_)
    subst hr_22
    exact W.lret hx hb hr (fun t ht hW => ⟨_, rfl, hf.symm, ht⟩) (fun q hq => absurd hq List.not_mem_nil) dX1_totalRank_25
  · have hf : f_X1_totalRank i x0 = ((-1 : Int64) - (f_X1_magnitude i x0)) := hf.trans (if_neg c_5)
    refine lv_ldc2 (v := -1) hx hb hown (hts _ (zin__r6 (.constantLong RX1 70 (-1)) (List.mem_of_getElem? (i := 5) rfl))) dX1_totalRank_8 ?_
    refine lv_aload_n hx hb dX1_totalRank_11 rfl (lv_at hl 0 rfl) ?_
    refine lv_lload_n hx hb dX1_totalRank_12 rfl (lv_at hl 1 rfl) ?_
    refine vp_callSl (va_Run.run (va_runV (As := [.long x0]) (rest := [.long (-1 : Int64)]) ⟨hx, hb, hml, hown, hts⟩ (c_X1_magnitude l ad i h_i x0) (cwV 1 hts (gV iX1_magnitude (zin__r4 (.methodLink RX1 53 yX1_magnitude) (List.mem_of_getElem? (i := 5) rfl))) rfl rfl rfl (by decide +kernel) ⟨Nat.le_of_ble_eq_true rfl, Nat.le_of_ble_eq_true rfl⟩) ⟨fun a U g mk q => ⟨q.1, kU_bl q.2⟩, (kU_rv hk h_i), fun U hU hW => ⟨rfl, kU_mv hk hU hW⟩⟩ rfl rfl hl.1 rfl (lv_room (Nat.le_of_ble_eq_true rfl)) dX1_totalRank_13 ⟨Nat.zero_le _, Nat.zero_le _⟩)) (fun r_13 hr_13 => ?_)
    subst hr_13
    refine lv_lsub hx hb dX1_totalRank_16 ?_
    refine lv_goto (tgt := 25) hx hb dX1_totalRank_17 (by decide) ?_
    exact W.lret hx hb hr (fun t ht hW => ⟨_, rfl, hf.symm, ht⟩) (fun q hq => absurd hq List.not_mem_nil) dX1_totalRank_25
def f_X1_isBelow_1 (i : Nat) (x0 : Int64) (x1 : Int64) : Int32 := if (f_X1_valueRank i x1) ≤ (f_X1_valueRank i x0) then (0 : Int32) else (1 : Int32)
def f_X1_isBelow_2 (i : Nat) (x0 : Int64) (x1 : Int64) : Int32 := if (f_X1_isNan i x1) = 0 then (f_X1_isBelow_1 i x0 x1) else (0 : Int32)
def f_X1_isBelow_3 (i : Nat) (x0 : Int64) (x1 : Int64) : Int32 := if (f_X1_isNan i x0) = 0 then (f_X1_isBelow_2 i x0 x1) else (0 : Int32)
def f_X1_isBelow (i : Nat) (x0 : Int64) (x1 : Int64) : Int32 := (f_X1_isBelow_3 i x0 x1)
def zX1_isBelow : List Cond := .code yX1_isBelow cX1_isBelow 5 (some .boolean) :: zall
theorem iX1_isBelow : MWv RX1 yX1_isBelow (.code yX1_isBelow cX1_isBelow 5 (some .boolean)) := ⟨(zin__r5 (.instanceMethod yX1_isBelow) (List.mem_of_getElem? (i := 10) rfl)), (zin__r5 (.selects RX1 yX1_isBelow yX1_isBelow) (List.mem_of_getElem? (i := 11) rfl)), (zin__r3 (.initialized RX1) (List.mem_of_getElem? (i := 20) rfl)), (zin__r5 (.code yX1_isBelow cX1_isBelow 5 (some .boolean)) (List.mem_of_getElem? (i := 12) rfl))⟩
set_option maxHeartbeats 4000000 in
set_option maxRecDepth 100000 in
theorem c_X1_isBelow (l : Launch) (ad : Nat → Nat) (i : Nat) (h_i : i < 2) (x0 : Int64) (x1 : Int64) : Met l yX1_isBelow zX1_isBelow ({ frames := 2, cells := 0, slots := 0, locals := 44 }) (va_Pc [.ref (ad i), .long x0, .long x1] (fun U => kU ad U)) (vp_Si (fun r => r = f_X1_isBelow i x0 x1)) 0 0 (fun _ => False) := by
  refine Met.ofW (cc := cX1_isBelow) (maxL := 5) (ret := (some .boolean)) (by decide) rfl ?_
  intro p e s m args below meth c s₁ B hml hv
  obtain ⟨rfl, hk⟩ := hv
  have hx := B.exec
  have hb := B.bytes
  have hr := B.returns
  have hts : ∀ w ∈ zall, w.before _ s = true := fun w h => atoms_spec (ws := zX1_isBelow) B.pre w (List.mem_cons_of_mem _ h)
  have hown : s.vm.findClass RX1 = some m.cls := findClass_of_methodNamed B.named
  have hlocks := B.notSynchronized
  have hl := lv_entry ([.ref (ad i), .long x0, .long x1]) (n := 5) (Nat.le_of_ble_eq_true rfl)
  rw [lg_entry_eq]
  generalize (lg_sl ([.ref (ad i), .long x0, .long x1]) ++ List.replicate (5 - (lg_sl ([.ref (ad i), .long x0, .long x1])).length) Slot.unset).toArray = ls at hl ⊢
  have hl : lv_has ls 5 [(0, .ref (ad i)), (1, .long x0), (3, .long x1)] := hl
  have hf : f_X1_isBelow i x0 x1 = (f_X1_isBelow_3 i x0 x1) := rfl
  refine lv_aload_n hx hb dX1_isBelow_0 rfl (lv_at hl 0 rfl) ?_
  refine lv_lload_n hx hb dX1_isBelow_1 rfl (lv_at hl 1 rfl) ?_
  refine vp_callSi (va_Run.run (va_runV (As := [.long x0]) (rest := []) ⟨hx, hb, hml, hown, hts⟩ (c_X1_isNan l ad i h_i x0) (cwV 1 hts (gV iX1_isNan (zin__r4 (.methodLink RX1 49 yX1_isNan) (List.mem_of_getElem? (i := 0) rfl))) rfl rfl rfl (by decide +kernel) ⟨Nat.le_of_ble_eq_true rfl, Nat.le_of_ble_eq_true rfl⟩) ⟨fun a U g mk q => ⟨q.1, kU_bl q.2⟩, (kU_rv hk h_i), fun U hU hW => ⟨rfl, kU_mv hk hU hW⟩⟩ rfl rfl hl.1 rfl (lv_room (Nat.le_of_ble_eq_true rfl)) dX1_isBelow_2 ⟨Nat.zero_le _, Nat.zero_le _⟩)) (fun r_2 hr_2 => ?_)
  subst hr_2
  refine lv_if_ne (tgt := 34) hx hb dX1_isBelow_5 (by decide) (fun c_5 => ?_) (fun c_5 => ?_)
  · have hf : f_X1_isBelow i x0 x1 = (0 : Int32) := hf.trans (if_neg c_5)
    refine lv_iconst (v := 0) hx hb dX1_isBelow_34 (by decide) ?_
    exact W.zret hx hb hr rfl (fun t ht hW => ⟨_, rfl, hf.symm, ht⟩) (fun q hq => absurd hq List.not_mem_nil) dX1_isBelow_35
  · have hf : f_X1_isBelow i x0 x1 = (f_X1_isBelow_2 i x0 x1) := hf.trans (if_pos c_5)
    refine lv_aload_n hx hb dX1_isBelow_8 rfl (lv_at hl 0 rfl) ?_
    refine lv_lload_n hx hb dX1_isBelow_9 rfl (lv_at hl 2 rfl) ?_
    refine vp_callSi (va_Run.run (va_runV (As := [.long x1]) (rest := []) ⟨hx, hb, hml, hown, hts⟩ (c_X1_isNan l ad i h_i x1) (cwV 1 hts (gV iX1_isNan (zin__r4 (.methodLink RX1 49 yX1_isNan) (List.mem_of_getElem? (i := 0) rfl))) rfl rfl rfl (by decide +kernel) ⟨Nat.le_of_ble_eq_true rfl, Nat.le_of_ble_eq_true rfl⟩) ⟨fun a U g mk q => ⟨q.1, kU_bl q.2⟩, (kU_rv hk h_i), fun U hU hW => ⟨rfl, kU_mv hk hU hW⟩⟩ rfl rfl hl.1 rfl (lv_room (Nat.le_of_ble_eq_true rfl)) dX1_isBelow_10 ⟨Nat.zero_le _, Nat.zero_le _⟩)) (fun r_10 hr_10 => ?_)
    subst hr_10
    refine lv_if_ne (tgt := 34) hx hb dX1_isBelow_13 (by decide) (fun c_13 => ?_) (fun c_13 => ?_)
    · have hf : f_X1_isBelow i x0 x1 = (0 : Int32) := hf.trans (if_neg c_13)
      refine lv_iconst (v := 0) hx hb dX1_isBelow_34 (by decide) ?_
      exact W.zret hx hb hr rfl (fun t ht hW => ⟨_, rfl, hf.symm, ht⟩) (fun q hq => absurd hq List.not_mem_nil) dX1_isBelow_35
    · have hf : f_X1_isBelow i x0 x1 = (f_X1_isBelow_1 i x0 x1) := hf.trans (if_pos c_13)
      refine lv_aload_n hx hb dX1_isBelow_16 rfl (lv_at hl 0 rfl) ?_
      refine lv_lload_n hx hb dX1_isBelow_17 rfl (lv_at hl 1 rfl) ?_
      refine vp_callSl (va_Run.run (va_runV (As := [.long x0]) (rest := []) ⟨hx, hb, hml, hown, hts⟩ (c_X1_valueRank l ad i h_i x0) (cwV 1 hts (gV iX1_valueRank (zin__r5 (.methodLink RX1 72 yX1_valueRank) (List.mem_of_getElem? (i := 13) rfl))) rfl rfl rfl (by decide +kernel) ⟨Nat.le_of_ble_eq_true rfl, Nat.le_of_ble_eq_true rfl⟩) ⟨fun a U g mk q => ⟨q.1, kU_bl q.2⟩, (kU_rv hk h_i), fun U hU hW => ⟨rfl, kU_mv hk hU hW⟩⟩ rfl rfl hl.1 rfl (lv_room (Nat.le_of_ble_eq_true rfl)) dX1_isBelow_18 ⟨Nat.zero_le _, Nat.zero_le _⟩)) (fun r_18 hr_18 => ?_)
      subst hr_18
      refine lv_aload_n hx hb dX1_isBelow_21 rfl (lv_at hl 0 rfl) ?_
      refine lv_lload_n hx hb dX1_isBelow_22 rfl (lv_at hl 2 rfl) ?_
      refine vp_callSl (va_Run.run (va_runV (As := [.long x1]) (rest := [.long (f_X1_valueRank i x0)]) ⟨hx, hb, hml, hown, hts⟩ (c_X1_valueRank l ad i h_i x1) (cwV 1 hts (gV iX1_valueRank (zin__r5 (.methodLink RX1 72 yX1_valueRank) (List.mem_of_getElem? (i := 13) rfl))) rfl rfl rfl (by decide +kernel) ⟨Nat.le_of_ble_eq_true rfl, Nat.le_of_ble_eq_true rfl⟩) ⟨fun a U g mk q => ⟨q.1, kU_bl q.2⟩, (kU_rv hk h_i), fun U hU hW => ⟨rfl, kU_mv hk hU hW⟩⟩ rfl rfl hl.1 rfl (lv_room (Nat.le_of_ble_eq_true rfl)) dX1_isBelow_23 ⟨Nat.zero_le _, Nat.zero_le _⟩)) (fun r_23 hr_23 => ?_)
      subst hr_23
      refine W.lcmp hx hb dX1_isBelow_26 ?_
      refine lv_if_ge (tgt := 34) hx hb dX1_isBelow_27 (by decide) (fun c_27 => ?_) (fun c_27 => ?_)
      · have c_27 : (f_X1_valueRank i x1) ≤ (f_X1_valueRank i x0) := (lg_cmp_ge (f_X1_valueRank i x0) (f_X1_valueRank i x1)).mp c_27
        have hf : f_X1_isBelow i x0 x1 = (0 : Int32) := hf.trans (if_pos c_27)
        refine lv_iconst (v := 0) hx hb dX1_isBelow_34 (by decide) ?_
        exact W.zret hx hb hr rfl (fun t ht hW => ⟨_, rfl, hf.symm, ht⟩) (fun q hq => absurd hq List.not_mem_nil) dX1_isBelow_35
      · have c_27 : ¬ ((f_X1_valueRank i x1) ≤ (f_X1_valueRank i x0)) := fun h9 => c_27 ((lg_cmp_ge (f_X1_valueRank i x0) (f_X1_valueRank i x1)).mpr h9)
        have hf : f_X1_isBelow i x0 x1 = (1 : Int32) := hf.trans (if_neg c_27)
        refine lv_iconst (v := 1) hx hb dX1_isBelow_30 (by decide) ?_
        refine lv_goto (tgt := 35) hx hb dX1_isBelow_31 (by decide) ?_
        exact W.zret hx hb hr rfl (fun t ht hW => ⟨_, rfl, hf.symm, ht⟩) (fun q hq => absurd hq List.not_mem_nil) dX1_isBelow_35
def f_X1_atMost_1 (i : Nat) (x0 : Int64) (x1 : Int64) : Int32 := if (f_X1_valueRank i x1) < (f_X1_valueRank i x0) then (0 : Int32) else (1 : Int32)
def f_X1_atMost_2 (i : Nat) (x0 : Int64) (x1 : Int64) : Int32 := if (f_X1_isNan i x1) = 0 then (f_X1_atMost_1 i x0 x1) else (0 : Int32)
def f_X1_atMost_3 (i : Nat) (x0 : Int64) (x1 : Int64) : Int32 := if (f_X1_isNan i x0) = 0 then (f_X1_atMost_2 i x0 x1) else (0 : Int32)
def f_X1_atMost (i : Nat) (x0 : Int64) (x1 : Int64) : Int32 := (f_X1_atMost_3 i x0 x1)
def zX1_atMost : List Cond := .code yX1_atMost cX1_atMost 5 (some .boolean) :: zall
theorem iX1_atMost : MWv RX1 yX1_atMost (.code yX1_atMost cX1_atMost 5 (some .boolean)) := ⟨(zin__r5 (.instanceMethod yX1_atMost) (List.mem_of_getElem? (i := 18) rfl)), (zin__r5 (.selects RX1 yX1_atMost yX1_atMost) (List.mem_of_getElem? (i := 19) rfl)), (zin__r3 (.initialized RX1) (List.mem_of_getElem? (i := 20) rfl)), (zin__r5 (.code yX1_atMost cX1_atMost 5 (some .boolean)) (List.mem_of_getElem? (i := 20) rfl))⟩
set_option maxHeartbeats 4000000 in
set_option maxRecDepth 100000 in
theorem c_X1_atMost (l : Launch) (ad : Nat → Nat) (i : Nat) (h_i : i < 2) (x0 : Int64) (x1 : Int64) : Met l yX1_atMost zX1_atMost ({ frames := 2, cells := 0, slots := 0, locals := 44 }) (va_Pc [.ref (ad i), .long x0, .long x1] (fun U => kU ad U)) (vp_Si (fun r => r = f_X1_atMost i x0 x1)) 0 0 (fun _ => False) := by
  refine Met.ofW (cc := cX1_atMost) (maxL := 5) (ret := (some .boolean)) (by decide) rfl ?_
  intro p e s m args below meth c s₁ B hml hv
  obtain ⟨rfl, hk⟩ := hv
  have hx := B.exec
  have hb := B.bytes
  have hr := B.returns
  have hts : ∀ w ∈ zall, w.before _ s = true := fun w h => atoms_spec (ws := zX1_atMost) B.pre w (List.mem_cons_of_mem _ h)
  have hown : s.vm.findClass RX1 = some m.cls := findClass_of_methodNamed B.named
  have hlocks := B.notSynchronized
  have hl := lv_entry ([.ref (ad i), .long x0, .long x1]) (n := 5) (Nat.le_of_ble_eq_true rfl)
  rw [lg_entry_eq]
  generalize (lg_sl ([.ref (ad i), .long x0, .long x1]) ++ List.replicate (5 - (lg_sl ([.ref (ad i), .long x0, .long x1])).length) Slot.unset).toArray = ls at hl ⊢
  have hl : lv_has ls 5 [(0, .ref (ad i)), (1, .long x0), (3, .long x1)] := hl
  have hf : f_X1_atMost i x0 x1 = (f_X1_atMost_3 i x0 x1) := rfl
  refine lv_aload_n hx hb dX1_atMost_0 rfl (lv_at hl 0 rfl) ?_
  refine lv_lload_n hx hb dX1_atMost_1 rfl (lv_at hl 1 rfl) ?_
  refine vp_callSi (va_Run.run (va_runV (As := [.long x0]) (rest := []) ⟨hx, hb, hml, hown, hts⟩ (c_X1_isNan l ad i h_i x0) (cwV 1 hts (gV iX1_isNan (zin__r4 (.methodLink RX1 49 yX1_isNan) (List.mem_of_getElem? (i := 0) rfl))) rfl rfl rfl (by decide +kernel) ⟨Nat.le_of_ble_eq_true rfl, Nat.le_of_ble_eq_true rfl⟩) ⟨fun a U g mk q => ⟨q.1, kU_bl q.2⟩, (kU_rv hk h_i), fun U hU hW => ⟨rfl, kU_mv hk hU hW⟩⟩ rfl rfl hl.1 rfl (lv_room (Nat.le_of_ble_eq_true rfl)) dX1_atMost_2 ⟨Nat.zero_le _, Nat.zero_le _⟩)) (fun r_2 hr_2 => ?_)
  subst hr_2
  refine lv_if_ne (tgt := 34) hx hb dX1_atMost_5 (by decide) (fun c_5 => ?_) (fun c_5 => ?_)
  · have hf : f_X1_atMost i x0 x1 = (0 : Int32) := hf.trans (if_neg c_5)
    refine lv_iconst (v := 0) hx hb dX1_atMost_34 (by decide) ?_
    exact W.zret hx hb hr rfl (fun t ht hW => ⟨_, rfl, hf.symm, ht⟩) (fun q hq => absurd hq List.not_mem_nil) dX1_atMost_35
  · have hf : f_X1_atMost i x0 x1 = (f_X1_atMost_2 i x0 x1) := hf.trans (if_pos c_5)
    refine lv_aload_n hx hb dX1_atMost_8 rfl (lv_at hl 0 rfl) ?_
    refine lv_lload_n hx hb dX1_atMost_9 rfl (lv_at hl 2 rfl) ?_
    refine vp_callSi (va_Run.run (va_runV (As := [.long x1]) (rest := []) ⟨hx, hb, hml, hown, hts⟩ (c_X1_isNan l ad i h_i x1) (cwV 1 hts (gV iX1_isNan (zin__r4 (.methodLink RX1 49 yX1_isNan) (List.mem_of_getElem? (i := 0) rfl))) rfl rfl rfl (by decide +kernel) ⟨Nat.le_of_ble_eq_true rfl, Nat.le_of_ble_eq_true rfl⟩) ⟨fun a U g mk q => ⟨q.1, kU_bl q.2⟩, (kU_rv hk h_i), fun U hU hW => ⟨rfl, kU_mv hk hU hW⟩⟩ rfl rfl hl.1 rfl (lv_room (Nat.le_of_ble_eq_true rfl)) dX1_atMost_10 ⟨Nat.zero_le _, Nat.zero_le _⟩)) (fun r_10 hr_10 => ?_)
    subst hr_10
    refine lv_if_ne (tgt := 34) hx hb dX1_atMost_13 (by decide) (fun c_13 => ?_) (fun c_13 => ?_)
    · have hf : f_X1_atMost i x0 x1 = (0 : Int32) := hf.trans (if_neg c_13)
      refine lv_iconst (v := 0) hx hb dX1_atMost_34 (by decide) ?_
      exact W.zret hx hb hr rfl (fun t ht hW => ⟨_, rfl, hf.symm, ht⟩) (fun q hq => absurd hq List.not_mem_nil) dX1_atMost_35
    · have hf : f_X1_atMost i x0 x1 = (f_X1_atMost_1 i x0 x1) := hf.trans (if_pos c_13)
      refine lv_aload_n hx hb dX1_atMost_16 rfl (lv_at hl 0 rfl) ?_
      refine lv_lload_n hx hb dX1_atMost_17 rfl (lv_at hl 1 rfl) ?_
      refine vp_callSl (va_Run.run (va_runV (As := [.long x0]) (rest := []) ⟨hx, hb, hml, hown, hts⟩ (c_X1_valueRank l ad i h_i x0) (cwV 1 hts (gV iX1_valueRank (zin__r5 (.methodLink RX1 72 yX1_valueRank) (List.mem_of_getElem? (i := 13) rfl))) rfl rfl rfl (by decide +kernel) ⟨Nat.le_of_ble_eq_true rfl, Nat.le_of_ble_eq_true rfl⟩) ⟨fun a U g mk q => ⟨q.1, kU_bl q.2⟩, (kU_rv hk h_i), fun U hU hW => ⟨rfl, kU_mv hk hU hW⟩⟩ rfl rfl hl.1 rfl (lv_room (Nat.le_of_ble_eq_true rfl)) dX1_atMost_18 ⟨Nat.zero_le _, Nat.zero_le _⟩)) (fun r_18 hr_18 => ?_)
      subst hr_18
      refine lv_aload_n hx hb dX1_atMost_21 rfl (lv_at hl 0 rfl) ?_
      refine lv_lload_n hx hb dX1_atMost_22 rfl (lv_at hl 2 rfl) ?_
      refine vp_callSl (va_Run.run (va_runV (As := [.long x1]) (rest := [.long (f_X1_valueRank i x0)]) ⟨hx, hb, hml, hown, hts⟩ (c_X1_valueRank l ad i h_i x1) (cwV 1 hts (gV iX1_valueRank (zin__r5 (.methodLink RX1 72 yX1_valueRank) (List.mem_of_getElem? (i := 13) rfl))) rfl rfl rfl (by decide +kernel) ⟨Nat.le_of_ble_eq_true rfl, Nat.le_of_ble_eq_true rfl⟩) ⟨fun a U g mk q => ⟨q.1, kU_bl q.2⟩, (kU_rv hk h_i), fun U hU hW => ⟨rfl, kU_mv hk hU hW⟩⟩ rfl rfl hl.1 rfl (lv_room (Nat.le_of_ble_eq_true rfl)) dX1_atMost_23 ⟨Nat.zero_le _, Nat.zero_le _⟩)) (fun r_23 hr_23 => ?_)
      subst hr_23
      refine W.lcmp hx hb dX1_atMost_26 ?_
      refine lv_if_gt (tgt := 34) hx hb dX1_atMost_27 (by decide) (fun c_27 => ?_) (fun c_27 => ?_)
      · have c_27 : (f_X1_valueRank i x1) < (f_X1_valueRank i x0) := (lg_cmp_gt (f_X1_valueRank i x0) (f_X1_valueRank i x1)).mp c_27
        have hf : f_X1_atMost i x0 x1 = (0 : Int32) := hf.trans (if_pos c_27)
        refine lv_iconst (v := 0) hx hb dX1_atMost_34 (by decide) ?_
        exact W.zret hx hb hr rfl (fun t ht hW => ⟨_, rfl, hf.symm, ht⟩) (fun q hq => absurd hq List.not_mem_nil) dX1_atMost_35
      · have c_27 : ¬ ((f_X1_valueRank i x1) < (f_X1_valueRank i x0)) := fun h9 => c_27 ((lg_cmp_gt (f_X1_valueRank i x0) (f_X1_valueRank i x1)).mpr h9)
        have hf : f_X1_atMost i x0 x1 = (1 : Int32) := hf.trans (if_neg c_27)
        refine lv_iconst (v := 1) hx hb dX1_atMost_30 (by decide) ?_
        refine lv_goto (tgt := 35) hx hb dX1_atMost_31 (by decide) ?_
        exact W.zret hx hb hr rfl (fun t ht hW => ⟨_, rfl, hf.symm, ht⟩) (fun q hq => absurd hq List.not_mem_nil) dX1_atMost_35
def f_X1_relations_1 (i : Nat) (x0 : Int64) (x1 : Int64) : Int32 := if (f_X1_atMost i x0 x1) = 0 then (32 : Int32) else (26 : Int32)
def f_X1_relations_2 (i : Nat) (x0 : Int64) (x1 : Int64) : Int32 := if (f_X1_isBelow i x1 x0) = 0 then (f_X1_relations_1 i x0 x1) else (52 : Int32)
def f_X1_relations_3 (i : Nat) (x0 : Int64) (x1 : Int64) : Int32 := if (f_X1_isBelow i x0 x1) = 0 then (f_X1_relations_2 i x0 x1) else (41 : Int32)
def f_X1_relations (i : Nat) (x0 : Int64) (x1 : Int64) : Int32 := (f_X1_relations_3 i x0 x1)
def zX1_relations : List Cond := .code yX1_relations cX1_relations 5 (some .int) :: zall
theorem iX1_relations : MWv RX1 yX1_relations (.code yX1_relations cX1_relations 5 (some .int)) := ⟨(zin__r5 (.instanceMethod yX1_relations) (List.mem_of_getElem? (i := 6) rfl)), (zin__r5 (.selects RX1 yX1_relations yX1_relations) (List.mem_of_getElem? (i := 7) rfl)), (zin__r3 (.initialized RX1) (List.mem_of_getElem? (i := 20) rfl)), (zin__r5 (.code yX1_relations cX1_relations 5 (some .int)) (List.mem_of_getElem? (i := 8) rfl))⟩
set_option maxHeartbeats 4000000 in
set_option maxRecDepth 100000 in
theorem c_X1_relations (l : Launch) (ad : Nat → Nat) (i : Nat) (h_i : i < 2) (x0 : Int64) (x1 : Int64) : Met l yX1_relations zX1_relations ({ frames := 3, cells := 0, slots := 0, locals := 68 }) (va_Pc [.ref (ad i), .long x0, .long x1] (fun U => kU ad U)) (vp_Si (fun r => r = f_X1_relations i x0 x1)) 0 0 (fun _ => False) := by
  refine Met.ofW (cc := cX1_relations) (maxL := 5) (ret := (some .int)) (by decide) rfl ?_
  intro p e s m args below meth c s₁ B hml hv
  obtain ⟨rfl, hk⟩ := hv
  have hx := B.exec
  have hb := B.bytes
  have hr := B.returns
  have hts : ∀ w ∈ zall, w.before _ s = true := fun w h => atoms_spec (ws := zX1_relations) B.pre w (List.mem_cons_of_mem _ h)
  have hown : s.vm.findClass RX1 = some m.cls := findClass_of_methodNamed B.named
  have hlocks := B.notSynchronized
  have hl := lv_entry ([.ref (ad i), .long x0, .long x1]) (n := 5) (Nat.le_of_ble_eq_true rfl)
  rw [lg_entry_eq]
  generalize (lg_sl ([.ref (ad i), .long x0, .long x1]) ++ List.replicate (5 - (lg_sl ([.ref (ad i), .long x0, .long x1])).length) Slot.unset).toArray = ls at hl ⊢
  have hl : lv_has ls 5 [(0, .ref (ad i)), (1, .long x0), (3, .long x1)] := hl
  have hf : f_X1_relations i x0 x1 = (f_X1_relations_3 i x0 x1) := rfl
  refine lv_aload_n hx hb dX1_relations_0 rfl (lv_at hl 0 rfl) ?_
  refine lv_lload_n hx hb dX1_relations_1 rfl (lv_at hl 1 rfl) ?_
  refine lv_lload_n hx hb dX1_relations_2 rfl (lv_at hl 2 rfl) ?_
  refine vp_callSi (va_Run.run (va_runV (As := [.long x0, .long x1]) (rest := []) ⟨hx, hb, hml, hown, hts⟩ (c_X1_isBelow l ad i h_i x0 x1) (cwV 2 hts (gV iX1_isBelow (zin__r5 (.methodLink RX1 75 yX1_isBelow) (List.mem_of_getElem? (i := 9) rfl))) rfl rfl rfl (by decide +kernel) ⟨Nat.le_of_ble_eq_true rfl, Nat.le_of_ble_eq_true rfl⟩) ⟨fun a U g mk q => ⟨q.1, kU_bl q.2⟩, (kU_rv hk h_i), fun U hU hW => ⟨rfl, kU_mv hk hU hW⟩⟩ rfl rfl hl.1 rfl (lv_room (Nat.le_of_ble_eq_true rfl)) dX1_relations_3 ⟨Nat.zero_le _, Nat.zero_le _⟩)) (fun r_3 hr_3 => ?_)
  subst hr_3
  refine lv_if_eq (tgt := 12) hx hb dX1_relations_6 (by decide) (fun c_6 => ?_) (fun c_6 => ?_)
  · have hf : f_X1_relations i x0 x1 = (f_X1_relations_2 i x0 x1) := hf.trans (if_pos c_6)
    refine lv_aload_n hx hb dX1_relations_12 rfl (lv_at hl 0 rfl) ?_
    refine lv_lload_n hx hb dX1_relations_13 rfl (lv_at hl 2 rfl) ?_
    refine lv_lload_n hx hb dX1_relations_14 rfl (lv_at hl 1 rfl) ?_
    refine vp_callSi (va_Run.run (va_runV (As := [.long x1, .long x0]) (rest := []) ⟨hx, hb, hml, hown, hts⟩ (c_X1_isBelow l ad i h_i x1 x0) (cwV 2 hts (gV iX1_isBelow (zin__r5 (.methodLink RX1 75 yX1_isBelow) (List.mem_of_getElem? (i := 9) rfl))) rfl rfl rfl (by decide +kernel) ⟨Nat.le_of_ble_eq_true rfl, Nat.le_of_ble_eq_true rfl⟩) ⟨fun a U g mk q => ⟨q.1, kU_bl q.2⟩, (kU_rv hk h_i), fun U hU hW => ⟨rfl, kU_mv hk hU hW⟩⟩ rfl rfl hl.1 rfl (lv_room (Nat.le_of_ble_eq_true rfl)) dX1_relations_15 ⟨Nat.zero_le _, Nat.zero_le _⟩)) (fun r_15 hr_15 => ?_)
    subst hr_15
    refine lv_if_eq (tgt := 24) hx hb dX1_relations_18 (by decide) (fun c_18 => ?_) (fun c_18 => ?_)
    · have hf : f_X1_relations i x0 x1 = (f_X1_relations_1 i x0 x1) := hf.trans (if_pos c_18)
      refine lv_aload_n hx hb dX1_relations_24 rfl (lv_at hl 0 rfl) ?_
      refine lv_lload_n hx hb dX1_relations_25 rfl (lv_at hl 1 rfl) ?_
      refine lv_lload_n hx hb dX1_relations_26 rfl (lv_at hl 2 rfl) ?_
      refine vp_callSi (va_Run.run (va_runV (As := [.long x0, .long x1]) (rest := []) ⟨hx, hb, hml, hown, hts⟩ (c_X1_atMost l ad i h_i x0 x1) (cwV 2 hts (gV iX1_atMost (zin__r5 (.methodLink RX1 79 yX1_atMost) (List.mem_of_getElem? (i := 17) rfl))) rfl rfl rfl (by decide +kernel) ⟨Nat.le_of_ble_eq_true rfl, Nat.le_of_ble_eq_true rfl⟩) ⟨fun a U g mk q => ⟨q.1, kU_bl q.2⟩, (kU_rv hk h_i), fun U hU hW => ⟨rfl, kU_mv hk hU hW⟩⟩ rfl rfl hl.1 rfl (lv_room (Nat.le_of_ble_eq_true rfl)) dX1_relations_27 ⟨Nat.zero_le _, Nat.zero_le _⟩)) (fun r_27 hr_27 => ?_)
      subst hr_27
      refine lv_if_eq (tgt := 38) hx hb dX1_relations_30 (by decide) (fun c_30 => ?_) (fun c_30 => ?_)
      · have hf : f_X1_relations i x0 x1 = (32 : Int32) := hf.trans (if_pos c_30)
        refine lv_bipush (v := 32) hx hb dX1_relations_38 (by decide) ?_
        exact W.iret hx hb hr (fun t ht hW => ⟨_, rfl, hf.symm, ht⟩) (fun q hq => absurd hq List.not_mem_nil) dX1_relations_40
      · have hf : f_X1_relations i x0 x1 = (26 : Int32) := hf.trans (if_neg c_30)
        refine lv_bipush (v := 26) hx hb dX1_relations_33 (by decide) ?_
        refine lv_goto (tgt := 40) hx hb dX1_relations_35 (by decide) ?_
        exact W.iret hx hb hr (fun t ht hW => ⟨_, rfl, hf.symm, ht⟩) (fun q hq => absurd hq List.not_mem_nil) dX1_relations_40
    · have hf : f_X1_relations i x0 x1 = (52 : Int32) := hf.trans (if_neg c_18)
      refine lv_bipush (v := 52) hx hb dX1_relations_21 (by decide) ?_
      exact W.iret hx hb hr (fun t ht hW => ⟨_, rfl, hf.symm, ht⟩) (fun q hq => absurd hq List.not_mem_nil) dX1_relations_23
  · have hf : f_X1_relations i x0 x1 = (41 : Int32) := hf.trans (if_neg c_6)
    refine lv_bipush (v := 41) hx hb dX1_relations_9 (by decide) ?_
    exact W.iret hx hb hr (fun t ht hW => ⟨_, rfl, hf.symm, ht⟩) (fun q hq => absurd hq List.not_mem_nil) dX1_relations_11
def f_X1_lesser_1 (i : Nat) (x0 : Int64) (x1 : Int64) : Int64 := if (f_X1_totalRank i x1) < (f_X1_totalRank i x0) then x1 else x0
def f_X1_lesser (i : Nat) (x0 : Int64) (x1 : Int64) : Int64 := (f_X1_lesser_1 i x0 x1)
def zX1_lesser : List Cond := .code yX1_lesser cX1_lesser 5 (some .long) :: zall
theorem iX1_lesser : MWv RX1 yX1_lesser (.code yX1_lesser cX1_lesser 5 (some .long)) := ⟨(zin__r8 (.instanceMethod yX1_lesser) (List.mem_of_getElem? (i := 2) rfl)), (zin__r8 (.selects RX1 yX1_lesser yX1_lesser) (List.mem_of_getElem? (i := 3) rfl)), (zin__r3 (.initialized RX1) (List.mem_of_getElem? (i := 20) rfl)), (zin__r8 (.code yX1_lesser cX1_lesser 5 (some .long)) (List.mem_of_getElem? (i := 4) rfl))⟩
set_option maxHeartbeats 4000000 in
set_option maxRecDepth 100000 in
theorem c_X1_lesser (l : Launch) (ad : Nat → Nat) (i : Nat) (h_i : i < 2) (x0 : Int64) (x1 : Int64) : Met l yX1_lesser zX1_lesser ({ frames := 2, cells := 0, slots := 0, locals := 44 }) (va_Pc [.ref (ad i), .long x0, .long x1] (fun U => kU ad U)) (vp_Sl (fun r => r = f_X1_lesser i x0 x1)) 0 0 (fun _ => False) := by
  refine Met.ofW (cc := cX1_lesser) (maxL := 5) (ret := (some .long)) (by decide) rfl ?_
  intro p e s m args below meth c s₁ B hml hv
  obtain ⟨rfl, hk⟩ := hv
  have hx := B.exec
  have hb := B.bytes
  have hr := B.returns
  have hts : ∀ w ∈ zall, w.before _ s = true := fun w h => atoms_spec (ws := zX1_lesser) B.pre w (List.mem_cons_of_mem _ h)
  have hown : s.vm.findClass RX1 = some m.cls := findClass_of_methodNamed B.named
  have hlocks := B.notSynchronized
  have hl := lv_entry ([.ref (ad i), .long x0, .long x1]) (n := 5) (Nat.le_of_ble_eq_true rfl)
  rw [lg_entry_eq]
  generalize (lg_sl ([.ref (ad i), .long x0, .long x1]) ++ List.replicate (5 - (lg_sl ([.ref (ad i), .long x0, .long x1])).length) Slot.unset).toArray = ls at hl ⊢
  have hl : lv_has ls 5 [(0, .ref (ad i)), (1, .long x0), (3, .long x1)] := hl
  have hf : f_X1_lesser i x0 x1 = (f_X1_lesser_1 i x0 x1) := rfl
  refine lv_aload_n hx hb dX1_lesser_0 rfl (lv_at hl 0 rfl) ?_
  refine lv_lload_n hx hb dX1_lesser_1 rfl (lv_at hl 1 rfl) ?_
  refine vp_callSl (va_Run.run (va_runV (As := [.long x0]) (rest := []) ⟨hx, hb, hml, hown, hts⟩ (c_X1_totalRank l ad i h_i x0) (cwV 1 hts (gV iX1_totalRank (zin__r8 (.methodLink RX1 82 yX1_totalRank) (List.mem_of_getElem? (i := 0) rfl))) rfl rfl rfl (by decide +kernel) ⟨Nat.le_of_ble_eq_true rfl, Nat.le_of_ble_eq_true rfl⟩) ⟨fun a U g mk q => ⟨q.1, kU_bl q.2⟩, (kU_rv hk h_i), fun U hU hW => ⟨rfl, kU_mv hk hU hW⟩⟩ rfl rfl hl.1 rfl (lv_room (Nat.le_of_ble_eq_true rfl)) dX1_lesser_2 ⟨Nat.zero_le _, Nat.zero_le _⟩)) (fun r_2 hr_2 => ?_)
  subst hr_2
  refine lv_aload_n hx hb dX1_lesser_5 rfl (lv_at hl 0 rfl) ?_
  refine lv_lload_n hx hb dX1_lesser_6 rfl (lv_at hl 2 rfl) ?_
  refine vp_callSl (va_Run.run (va_runV (As := [.long x1]) (rest := [.long (f_X1_totalRank i x0)]) ⟨hx, hb, hml, hown, hts⟩ (c_X1_totalRank l ad i h_i x1) (cwV 1 hts (gV iX1_totalRank (zin__r8 (.methodLink RX1 82 yX1_totalRank) (List.mem_of_getElem? (i := 0) rfl))) rfl rfl rfl (by decide +kernel) ⟨Nat.le_of_ble_eq_true rfl, Nat.le_of_ble_eq_true rfl⟩) ⟨fun a U g mk q => ⟨q.1, kU_bl q.2⟩, (kU_rv hk h_i), fun U hU hW => ⟨rfl, kU_mv hk hU hW⟩⟩ rfl rfl hl.1 rfl (lv_room (Nat.le_of_ble_eq_true rfl)) dX1_lesser_7 ⟨Nat.zero_le _, Nat.zero_le _⟩)) (fun r_7 hr_7 => ?_)
  subst hr_7
  refine W.lcmp hx hb dX1_lesser_10 ?_
  refine lv_if_gt (tgt := 18) hx hb dX1_lesser_11 (by decide) (fun c_11 => ?_) (fun c_11 => ?_)
  · have c_11 : (f_X1_totalRank i x1) < (f_X1_totalRank i x0) := (lg_cmp_gt (f_X1_totalRank i x0) (f_X1_totalRank i x1)).mp c_11
    have hf : f_X1_lesser i x0 x1 = x1 := hf.trans (if_pos c_11)
    refine lv_lload_n hx hb dX1_lesser_18 rfl (lv_at hl 2 rfl) ?_
    exact W.lret hx hb hr (fun t ht hW => ⟨_, rfl, hf.symm, ht⟩) (fun q hq => absurd hq List.not_mem_nil) dX1_lesser_19
  · have c_11 : ¬ ((f_X1_totalRank i x1) < (f_X1_totalRank i x0)) := fun h9 => c_11 ((lg_cmp_gt (f_X1_totalRank i x0) (f_X1_totalRank i x1)).mpr h9)
    have hf : f_X1_lesser i x0 x1 = x0 := hf.trans (if_neg c_11)
    refine lv_lload_n hx hb dX1_lesser_14 rfl (lv_at hl 1 rfl) ?_
    refine lv_goto (tgt := 19) hx hb dX1_lesser_15 (by decide) ?_
    exact W.lret hx hb hr (fun t ht hW => ⟨_, rfl, hf.symm, ht⟩) (fun q hq => absurd hq List.not_mem_nil) dX1_lesser_19
def f_X1_greater_1 (i : Nat) (x0 : Int64) (x1 : Int64) : Int64 := if (f_X1_totalRank i x0) < (f_X1_totalRank i x1) then x1 else x0
def f_X1_greater (i : Nat) (x0 : Int64) (x1 : Int64) : Int64 := (f_X1_greater_1 i x0 x1)
def zX1_greater : List Cond := .code yX1_greater cX1_greater 5 (some .long) :: zall
theorem iX1_greater : MWv RX1 yX1_greater (.code yX1_greater cX1_greater 5 (some .long)) := ⟨(zin__r7 (.instanceMethod yX1_greater) (List.mem_of_getElem? (i := 21) rfl)), (zin__r7 (.selects RX1 yX1_greater yX1_greater) (List.mem_of_getElem? (i := 22) rfl)), (zin__r3 (.initialized RX1) (List.mem_of_getElem? (i := 20) rfl)), (zin__r7 (.code yX1_greater cX1_greater 5 (some .long)) (List.mem_of_getElem? (i := 23) rfl))⟩
set_option maxHeartbeats 4000000 in
set_option maxRecDepth 100000 in
theorem c_X1_greater (l : Launch) (ad : Nat → Nat) (i : Nat) (h_i : i < 2) (x0 : Int64) (x1 : Int64) : Met l yX1_greater zX1_greater ({ frames := 2, cells := 0, slots := 0, locals := 44 }) (va_Pc [.ref (ad i), .long x0, .long x1] (fun U => kU ad U)) (vp_Sl (fun r => r = f_X1_greater i x0 x1)) 0 0 (fun _ => False) := by
  refine Met.ofW (cc := cX1_greater) (maxL := 5) (ret := (some .long)) (by decide) rfl ?_
  intro p e s m args below meth c s₁ B hml hv
  obtain ⟨rfl, hk⟩ := hv
  have hx := B.exec
  have hb := B.bytes
  have hr := B.returns
  have hts : ∀ w ∈ zall, w.before _ s = true := fun w h => atoms_spec (ws := zX1_greater) B.pre w (List.mem_cons_of_mem _ h)
  have hown : s.vm.findClass RX1 = some m.cls := findClass_of_methodNamed B.named
  have hlocks := B.notSynchronized
  have hl := lv_entry ([.ref (ad i), .long x0, .long x1]) (n := 5) (Nat.le_of_ble_eq_true rfl)
  rw [lg_entry_eq]
  generalize (lg_sl ([.ref (ad i), .long x0, .long x1]) ++ List.replicate (5 - (lg_sl ([.ref (ad i), .long x0, .long x1])).length) Slot.unset).toArray = ls at hl ⊢
  have hl : lv_has ls 5 [(0, .ref (ad i)), (1, .long x0), (3, .long x1)] := hl
  have hf : f_X1_greater i x0 x1 = (f_X1_greater_1 i x0 x1) := rfl
  refine lv_aload_n hx hb dX1_greater_0 rfl (lv_at hl 0 rfl) ?_
  refine lv_lload_n hx hb dX1_greater_1 rfl (lv_at hl 1 rfl) ?_
  refine vp_callSl (va_Run.run (va_runV (As := [.long x0]) (rest := []) ⟨hx, hb, hml, hown, hts⟩ (c_X1_totalRank l ad i h_i x0) (cwV 1 hts (gV iX1_totalRank (zin__r8 (.methodLink RX1 82 yX1_totalRank) (List.mem_of_getElem? (i := 0) rfl))) rfl rfl rfl (by decide +kernel) ⟨Nat.le_of_ble_eq_true rfl, Nat.le_of_ble_eq_true rfl⟩) ⟨fun a U g mk q => ⟨q.1, kU_bl q.2⟩, (kU_rv hk h_i), fun U hU hW => ⟨rfl, kU_mv hk hU hW⟩⟩ rfl rfl hl.1 rfl (lv_room (Nat.le_of_ble_eq_true rfl)) dX1_greater_2 ⟨Nat.zero_le _, Nat.zero_le _⟩)) (fun r_2 hr_2 => ?_)
  subst hr_2
  refine lv_aload_n hx hb dX1_greater_5 rfl (lv_at hl 0 rfl) ?_
  refine lv_lload_n hx hb dX1_greater_6 rfl (lv_at hl 2 rfl) ?_
  refine vp_callSl (va_Run.run (va_runV (As := [.long x1]) (rest := [.long (f_X1_totalRank i x0)]) ⟨hx, hb, hml, hown, hts⟩ (c_X1_totalRank l ad i h_i x1) (cwV 1 hts (gV iX1_totalRank (zin__r8 (.methodLink RX1 82 yX1_totalRank) (List.mem_of_getElem? (i := 0) rfl))) rfl rfl rfl (by decide +kernel) ⟨Nat.le_of_ble_eq_true rfl, Nat.le_of_ble_eq_true rfl⟩) ⟨fun a U g mk q => ⟨q.1, kU_bl q.2⟩, (kU_rv hk h_i), fun U hU hW => ⟨rfl, kU_mv hk hU hW⟩⟩ rfl rfl hl.1 rfl (lv_room (Nat.le_of_ble_eq_true rfl)) dX1_greater_7 ⟨Nat.zero_le _, Nat.zero_le _⟩)) (fun r_7 hr_7 => ?_)
  subst hr_7
  refine W.lcmp hx hb dX1_greater_10 ?_
  refine lv_if_lt (tgt := 18) hx hb dX1_greater_11 (by decide) (fun c_11 => ?_) (fun c_11 => ?_)
  · have c_11 : (f_X1_totalRank i x0) < (f_X1_totalRank i x1) := (lg_cmp_lt (f_X1_totalRank i x0) (f_X1_totalRank i x1)).mp c_11
    have hf : f_X1_greater i x0 x1 = x1 := hf.trans (if_pos c_11)
    refine lv_lload_n hx hb dX1_greater_18 rfl (lv_at hl 2 rfl) ?_
    exact W.lret hx hb hr (fun t ht hW => ⟨_, rfl, hf.symm, ht⟩) (fun q hq => absurd hq List.not_mem_nil) dX1_greater_19
  · have c_11 : ¬ ((f_X1_totalRank i x0) < (f_X1_totalRank i x1)) := fun h9 => c_11 ((lg_cmp_lt (f_X1_totalRank i x0) (f_X1_totalRank i x1)).mpr h9)
    have hf : f_X1_greater i x0 x1 = x0 := hf.trans (if_neg c_11)
    refine lv_lload_n hx hb dX1_greater_14 rfl (lv_at hl 1 rfl) ?_
    refine lv_goto (tgt := 19) hx hb dX1_greater_15 (by decide) ?_
    exact W.lret hx hb hr (fun t ht hW => ⟨_, rfl, hf.symm, ht⟩) (fun q hq => absurd hq List.not_mem_nil) dX1_greater_19
def f_X1_stepped_1 (i : Nat) (v4_1 : Int64) (w_2 : Int32) : Int64 := (f_X1_signed i w_2 (jabsL v4_1))
def f_X1_stepped_2 (i : Nat) (v4_1 : Int64) : Int64 := if (0 : Int64) ≤ v4_1 then (f_X1_stepped_1 i v4_1 (0 : Int32)) else (f_X1_stepped_1 i v4_1 (1 : Int32))
def f_X1_stepped_3 (i : Nat) (w_3 : Int32) : Int64 := (f_X1_signed i w_3 (0 : Int64))
def f_X1_stepped_4 (i : Nat) (x1 : Int32) : Int64 := if x1 ≤ 0 then (f_X1_stepped_3 i (0 : Int32)) else (f_X1_stepped_3 i (1 : Int32))
def f_X1_stepped_5 (i : Nat) (x1 : Int32) (v4_1 : Int64) : Int64 := if v4_1 = (0 : Int64) then (f_X1_stepped_4 i x1) else (f_X1_stepped_2 i v4_1)
def f_X1_stepped_6 (i : Nat) (x0 : Int64) (x1 : Int32) : Int64 := if (f_X1_isNan i x0) = 0 then (f_X1_stepped_5 i x1 (jmaxL (-(kinf i)) (jminL (kinf i) ((f_X1_valueRank i x0) + ((x1).toInt64))))) else x0
def f_X1_stepped_7 (i : Nat) (x0 : Int64) (x1 : Int32) : Int64 := if x1 = 0 then x0 else (f_X1_stepped_6 i x0 x1)
def f_X1_stepped (i : Nat) (x0 : Int64) (x1 : Int32) : Int64 := (f_X1_stepped_7 i x0 x1)
def zX1_stepped : List Cond := .code yX1_stepped cX1_stepped 6 (some .long) :: zall
theorem iX1_stepped : MWv RX1 yX1_stepped (.code yX1_stepped cX1_stepped 6 (some .long)) := ⟨(zin__r15 (.instanceMethod yX1_stepped) (List.mem_of_getElem? (i := 2) rfl)), (zin__r15 (.selects RX1 yX1_stepped yX1_stepped) (List.mem_of_getElem? (i := 3) rfl)), (zin__r3 (.initialized RX1) (List.mem_of_getElem? (i := 20) rfl)), (zin__r15 (.code yX1_stepped cX1_stepped 6 (some .long)) (List.mem_of_getElem? (i := 4) rfl))⟩
set_option maxHeartbeats 4000000 in
set_option maxRecDepth 100000 in
theorem c_X1_stepped (l : Launch) (ad : Nat → Nat) (i : Nat) (h_i : i < 2) (x0 : Int64) (x1 : Int32) : Met l yX1_stepped zX1_stepped ({ frames := 2, cells := 0, slots := 0, locals := 44 }) (va_Pc [.ref (ad i), .long x0, .int x1] (fun U => kU ad U)) (vp_Sl (fun r => r = f_X1_stepped i x0 x1)) 0 0 (fun _ => False) := by
  refine Met.ofW (cc := cX1_stepped) (maxL := 6) (ret := (some .long)) (by decide) rfl ?_
  intro p e s m args below meth c s₁ B hml hv
  obtain ⟨rfl, hk⟩ := hv
  have hx := B.exec
  have hb := B.bytes
  have hr := B.returns
  have hts : ∀ w ∈ zall, w.before _ s = true := fun w h => atoms_spec (ws := zX1_stepped) B.pre w (List.mem_cons_of_mem _ h)
  have hown : s.vm.findClass RX1 = some m.cls := findClass_of_methodNamed B.named
  have hlocks := B.notSynchronized
  have hl := lv_entry ([.ref (ad i), .long x0, .int x1]) (n := 6) (Nat.le_of_ble_eq_true rfl)
  rw [lg_entry_eq]
  generalize (lg_sl ([.ref (ad i), .long x0, .int x1]) ++ List.replicate (6 - (lg_sl ([.ref (ad i), .long x0, .int x1])).length) Slot.unset).toArray = ls at hl ⊢
  have hl : lv_has ls 6 [(0, .ref (ad i)), (1, .long x0), (3, .int x1)] := hl
  have hf : f_X1_stepped i x0 x1 = (f_X1_stepped_7 i x0 x1) := rfl
  refine lv_iload_n hx hb dX1_stepped_0 rfl (lv_at hl 2 rfl) ?_
  refine lv_if_eq (tgt := 12) hx hb dX1_stepped_1 (by decide) (fun c_1 => ?_) (fun c_1 => ?_)
  · have hf : f_X1_stepped i x0 x1 = x0 := hf.trans (if_pos c_1)
    refine lv_lload_n hx hb dX1_stepped_12 rfl (lv_at hl 1 rfl) ?_
    exact W.lret hx hb hr (fun t ht hW => ⟨_, rfl, hf.symm, ht⟩) (fun q hq => absurd hq List.not_mem_nil) dX1_stepped_13
  · have hf : f_X1_stepped i x0 x1 = (f_X1_stepped_6 i x0 x1) := hf.trans (if_neg c_1)
    refine lv_aload_n hx hb dX1_stepped_4 rfl (lv_at hl 0 rfl) ?_
    refine lv_lload_n hx hb dX1_stepped_5 rfl (lv_at hl 1 rfl) ?_
    refine vp_callSi (va_Run.run (va_runV (As := [.long x0]) (rest := []) ⟨hx, hb, hml, hown, hts⟩ (c_X1_isNan l ad i h_i x0) (cwV 1 hts (gV iX1_isNan (zin__r4 (.methodLink RX1 49 yX1_isNan) (List.mem_of_getElem? (i := 0) rfl))) rfl rfl rfl (by decide +kernel) ⟨Nat.le_of_ble_eq_true rfl, Nat.le_of_ble_eq_true rfl⟩) ⟨fun a U g mk q => ⟨q.1, kU_bl q.2⟩, (kU_rv hk h_i), fun U hU hW => ⟨rfl, kU_mv hk hU hW⟩⟩ rfl rfl hl.1 rfl (lv_room (Nat.le_of_ble_eq_true rfl)) dX1_stepped_6 ⟨Nat.zero_le _, Nat.zero_le _⟩)) (fun r_6 hr_6 => ?_)
    subst hr_6
    refine lv_if_eq (tgt := 14) hx hb dX1_stepped_9 (by decide) (fun c_9 => ?_) (fun c_9 => ?_)
    · have hf : f_X1_stepped i x0 x1 = (f_X1_stepped_5 i x1 (jmaxL (-(kinf i)) (jminL (kinf i) ((f_X1_valueRank i x0) + ((x1).toInt64))))) := hf.trans (if_pos c_9)
      refine lv_aload_n hx hb dX1_stepped_14 rfl (lv_at hl 0 rfl) ?_
      refine vk_getf hx hb (kE_infinite hk h_i) va_S.rf hown (hts _ (zin__r4 (.fieldLink RX1 43 "ReckonBench$Kind" "infinite" "J") (List.mem_of_getElem? (i := 4) rfl))) (fun _ h9 => h9) dX1_stepped_15 ?_
      refine lv_lneg hx hb dX1_stepped_18 ?_
      refine lv_aload_n hx hb dX1_stepped_19 rfl (lv_at hl 0 rfl) ?_
      refine vk_getf hx hb (kE_infinite hk h_i) va_S.rf hown (hts _ (zin__r4 (.fieldLink RX1 43 "ReckonBench$Kind" "infinite" "J") (List.mem_of_getElem? (i := 4) rfl))) (fun _ h9 => h9) dX1_stepped_20 ?_
      refine lv_aload_n hx hb dX1_stepped_23 rfl (lv_at hl 0 rfl) ?_
      refine lv_lload_n hx hb dX1_stepped_24 rfl (lv_at hl 1 rfl) ?_
      refine vp_callSl (va_Run.run (va_runV (As := [.long x0]) (rest := [.long (kinf i), .long (-(kinf i))]) ⟨hx, hb, hml, hown, hts⟩ (c_X1_valueRank l ad i h_i x0) (cwV 1 hts (gV iX1_valueRank (zin__r5 (.methodLink RX1 72 yX1_valueRank) (List.mem_of_getElem? (i := 13) rfl))) rfl rfl rfl (by decide +kernel) ⟨Nat.le_of_ble_eq_true rfl, Nat.le_of_ble_eq_true rfl⟩) ⟨fun a U g mk q => ⟨q.1, kU_bl q.2⟩, (kU_rv hk h_i), fun U hU hW => ⟨rfl, kU_mv hk hU hW⟩⟩ rfl rfl hl.1 rfl (lv_room (Nat.le_of_ble_eq_true rfl)) dX1_stepped_25 ⟨Nat.zero_le _, Nat.zero_le _⟩)) (fun r_25 hr_25 => ?_)
      subst hr_25
      refine lv_iload_n hx hb dX1_stepped_28 rfl (lv_at hl 2 rfl) ?_
      refine lv_i2l (v := ((x1).toInt64)) hx hb dX1_stepped_29 rfl ?_
      refine lv_ladd hx hb dX1_stepped_30 ?_
      refine va_mmin_long hx hb (hml.trans hl.1.symm) hown (hts _ (zin__r15 (.methodLink RX1 85 Lib.MathLoose.min_long.x) (List.mem_of_getElem? (i := 5) rfl))) (hts _ (zin__r15 (.static Lib.MathLoose.min_long.x) (List.mem_of_getElem? (i := 6) rfl))) (hts _ (zin__r8 (.initialized "java/lang/Math") (List.mem_of_getElem? (i := 10) rfl))) (hts _ (zin__r15 (.code Lib.MathLoose.min_long.x Lib.MathLoose.min_long.code 4 (some .long)) (List.mem_of_getElem? (i := 7) rfl))) (Nat.le_of_ble_eq_true rfl) (Nat.le_of_ble_eq_true rfl) (Nat.zero_le _) (Nat.zero_le _) dX1_stepped_31 ?_
      refine va_mmax_long hx hb (hml.trans hl.1.symm) hown (hts _ (zin__r15 (.methodLink RX1 89 Lib.MathLoose.max_long.x) (List.mem_of_getElem? (i := 8) rfl))) (hts _ (zin__r15 (.static Lib.MathLoose.max_long.x) (List.mem_of_getElem? (i := 9) rfl))) (hts _ (zin__r8 (.initialized "java/lang/Math") (List.mem_of_getElem? (i := 10) rfl))) (hts _ (zin__r15 (.code Lib.MathLoose.max_long.x Lib.MathLoose.max_long.code 4 (some .long)) (List.mem_of_getElem? (i := 10) rfl))) (Nat.le_of_ble_eq_true rfl) (Nat.le_of_ble_eq_true rfl) (Nat.zero_le _) (Nat.zero_le _) dX1_stepped_34 ?_
      refine lv_topl (fun v4_1 e_v4_1 => ?_)
      have hf : f_X1_stepped i x0 x1 = (f_X1_stepped_5 i x1 v4_1) := hf.trans (congrArg (fun z => (f_X1_stepped_5 i x1 z)) e_v4_1.symm)
      refine lv_lstore (lv' := [(4, .long v4_1), (0, .ref (ad i)), (1, .long x0), (3, .int x1)]) hx hb dX1_stepped_37 hl (by decide) rfl (fun ls hl => ?_)
      refine lv_lload hx hb dX1_stepped_39 (lv_at hl 0 rfl) ?_
      refine lv_lconst (v := 0) hx hb dX1_stepped_41 (by decide) ?_
      refine W.lcmp hx hb dX1_stepped_42 ?_
      refine lv_if_ne (tgt := 61) hx hb dX1_stepped_43 (by decide) (fun c_43 => ?_) (fun c_43 => ?_)
      · have c_43 : ¬ (v4_1 = (0 : Int64)) := fun h9 => c_43 ((lg_cmp_eq v4_1 (0 : Int64)).mpr h9)
        have hf : f_X1_stepped i x0 x1 = (f_X1_stepped_2 i v4_1) := hf.trans (if_neg c_43)
        refine lv_aload_n hx hb dX1_stepped_61 rfl (lv_at hl 1 rfl) ?_
        refine lv_lload hx hb dX1_stepped_62 (lv_at hl 0 rfl) ?_
        refine lv_lconst (v := 0) hx hb dX1_stepped_64 (by decide) ?_
        refine W.lcmp hx hb dX1_stepped_65 ?_
        refine W_cut (α := Int32) (pcJ := 74) (nL := 6) (fun v => f_X1_stepped i x0 x1 = (f_X1_stepped_1 i v4_1 v)) (fun v => [.int v, .ref (ad i)]) (fun v => [(4, .long v4_1)]) (fun w_2 ls hf hl => ?_) (fun K_74 => ?_)
        · have hf : f_X1_stepped i x0 x1 = (f_X1_signed i w_2 (jabsL v4_1)) := hf
          have hl : lv_has ls 6 [(4, .long v4_1)] := hl
          refine lv_lload hx hb dX1_stepped_74 (lv_at hl 0 rfl) ?_
          refine va_mabs_long hx hb (hml.trans hl.1.symm) hown (hts _ (zin__r15 (.methodLink RX1 95 Lib.MathLoose.abs_long.x) (List.mem_of_getElem? (i := 11) rfl))) (hts _ (zin__r15 (.static Lib.MathLoose.abs_long.x) (List.mem_of_getElem? (i := 12) rfl))) (hts _ (zin__r8 (.initialized "java/lang/Math") (List.mem_of_getElem? (i := 10) rfl))) (hts _ (zin__r15 (.code Lib.MathLoose.abs_long.x Lib.MathLoose.abs_long.code 2 (some .long)) (List.mem_of_getElem? (i := 13) rfl))) (Nat.le_of_ble_eq_true rfl) (Nat.le_of_ble_eq_true rfl) (Nat.zero_le _) (Nat.zero_le _) dX1_stepped_76 ?_
          refine vp_callSl (va_Run.run (va_runV (As := [.int w_2, .long (jabsL v4_1)]) (rest := []) ⟨hx, hb, hml, hown, hts⟩ (c_X1_signed l ad i h_i w_2 (jabsL v4_1)) (cwV 2 hts (gV iX1_signed (zin__r9 (.methodLink RX1 91 yX1_signed) (List.mem_of_getElem? (i := 15) rfl))) rfl rfl rfl (by decide +kernel) ⟨Nat.le_of_ble_eq_true rfl, Nat.le_of_ble_eq_true rfl⟩) ⟨fun a U g mk q => ⟨q.1, kU_bl q.2⟩, (kU_rv hk h_i), fun U hU hW => ⟨rfl, kU_mv hk hU hW⟩⟩ rfl rfl hl.1 rfl (lv_room (Nat.le_of_ble_eq_true rfl)) dX1_stepped_79 ⟨Nat.zero_le _, Nat.zero_le _⟩)) (fun r_79 hr_79 => ?_)
          subst hr_79
          exact W.lret hx hb hr (fun t ht hW => ⟨_, rfl, hf.symm, ht⟩) (fun q hq => absurd hq List.not_mem_nil) dX1_stepped_82
        refine lv_if_ge (tgt := 73) hx hb dX1_stepped_66 (by decide) (fun c_66 => ?_) (fun c_66 => ?_)
        · have c_66 : (0 : Int64) ≤ v4_1 := (lg_cmp_ge v4_1 (0 : Int64)).mp c_66
          have hf : f_X1_stepped i x0 x1 = (f_X1_stepped_1 i v4_1 (0 : Int32)) := hf.trans (if_pos c_66)
          refine lv_iconst (v := 0) hx hb dX1_stepped_73 (by decide) ?_
          exact K_74 (0 : Int32) ls hf (lv_sub hl [0] rfl)
        · have c_66 : ¬ ((0 : Int64) ≤ v4_1) := fun h9 => c_66 ((lg_cmp_ge v4_1 (0 : Int64)).mpr h9)
          have hf : f_X1_stepped i x0 x1 = (f_X1_stepped_1 i v4_1 (1 : Int32)) := hf.trans (if_neg c_66)
          refine lv_iconst (v := 1) hx hb dX1_stepped_69 (by decide) ?_
          refine lv_goto (tgt := 74) hx hb dX1_stepped_70 (by decide) ?_
          exact K_74 (1 : Int32) ls hf (lv_sub hl [0] rfl)
      · have c_43 : v4_1 = (0 : Int64) := (lg_cmp_eq v4_1 (0 : Int64)).mp c_43
        have hf : f_X1_stepped i x0 x1 = (f_X1_stepped_4 i x1) := hf.trans (if_pos c_43)
        refine lv_aload_n hx hb dX1_stepped_46 rfl (lv_at hl 1 rfl) ?_
        refine lv_iload_n hx hb dX1_stepped_47 rfl (lv_at hl 3 rfl) ?_
        refine W_cut (α := Int32) (pcJ := 56) (nL := 6) (fun v => f_X1_stepped i x0 x1 = (f_X1_stepped_3 i v)) (fun v => [.int v, .ref (ad i)]) (fun v => []) (fun w_3 ls hf hl => ?_) (fun K_56 => ?_)
        · have hf : f_X1_stepped i x0 x1 = (f_X1_signed i w_3 (0 : Int64)) := hf
          have hl : lv_has ls 6 [] := hl
          refine lv_lconst (v := 0) hx hb dX1_stepped_56 (by decide) ?_
          refine vp_callSl (va_Run.run (va_runV (As := [.int w_3, .long (0 : Int64)]) (rest := []) ⟨hx, hb, hml, hown, hts⟩ (c_X1_signed l ad i h_i w_3 (0 : Int64)) (cwV 2 hts (gV iX1_signed (zin__r9 (.methodLink RX1 91 yX1_signed) (List.mem_of_getElem? (i := 15) rfl))) rfl rfl rfl (by decide +kernel) ⟨Nat.le_of_ble_eq_true rfl, Nat.le_of_ble_eq_true rfl⟩) ⟨fun a U g mk q => ⟨q.1, kU_bl q.2⟩, (kU_rv hk h_i), fun U hU hW => ⟨rfl, kU_mv hk hU hW⟩⟩ rfl rfl hl.1 rfl (lv_room (Nat.le_of_ble_eq_true rfl)) dX1_stepped_57 ⟨Nat.zero_le _, Nat.zero_le _⟩)) (fun r_57 hr_57 => ?_)
          subst hr_57
          exact W.lret hx hb hr (fun t ht hW => ⟨_, rfl, hf.symm, ht⟩) (fun q hq => absurd hq List.not_mem_nil) dX1_stepped_60
        refine lv_if_le (tgt := 55) hx hb dX1_stepped_48 (by decide) (fun c_48 => ?_) (fun c_48 => ?_)
        · have hf : f_X1_stepped i x0 x1 = (f_X1_stepped_3 i (0 : Int32)) := hf.trans (if_pos c_48)
          refine lv_iconst (v := 0) hx hb dX1_stepped_55 (by decide) ?_
          exact K_56 (0 : Int32) ls hf (lv_sub hl [] rfl)
        · have hf : f_X1_stepped i x0 x1 = (f_X1_stepped_3 i (1 : Int32)) := hf.trans (if_neg c_48)
          refine lv_iconst (v := 1) hx hb dX1_stepped_51 (by decide) ?_
          refine lv_goto (tgt := 56) hx hb dX1_stepped_52 (by decide) ?_
          exact K_56 (1 : Int32) ls hf (lv_sub hl [] rfl)
    · have hf : f_X1_stepped i x0 x1 = x0 := hf.trans (if_neg c_9)
      refine lv_lload_n hx hb dX1_stepped_12 rfl (lv_at hl 1 rfl) ?_
      exact W.lret hx hb hr (fun t ht hW => ⟨_, rfl, hf.symm, ht⟩) (fun q hq => absurd hq List.not_mem_nil) dX1_stepped_13
def f_X1_withoutLast_1 (v3_1 : Int64) (w_4 : Int32) : Int64 := if w_4 = 0 then v3_1 else (v3_1 + (1 : Int64))
def f_X1_withoutLast_2 (v3_1 : Int64) : Int64 := (f_X1_withoutLast_1 v3_1 (1 : Int32))
def f_X1_withoutLast_3 (v3_1 : Int64) : Int64 := (f_X1_withoutLast_1 v3_1 (0 : Int32))
def f_X1_withoutLast_4 (v3_1 : Int64) : Int64 := if (v3_1 &&& (1 : Int64)) = (1 : Int64) then (f_X1_withoutLast_2 v3_1) else (f_X1_withoutLast_3 v3_1)
def f_X1_withoutLast_5 (v3_1 : Int64) (v5_2 : Int64) (v7_3 : Int64) : Int64 := if v5_2 = v7_3 then (f_X1_withoutLast_4 v3_1) else (f_X1_withoutLast_3 v3_1)
def f_X1_withoutLast_6 (v3_1 : Int64) (v5_2 : Int64) (v7_3 : Int64) : Int64 := if v7_3 < v5_2 then (f_X1_withoutLast_2 v3_1) else (f_X1_withoutLast_5 v3_1 v5_2 v7_3)
def f_X1_withoutLast_7 (x0 : Int64) (x1 : Int32) : Int64 := if x1 ≤ (63 : Int32) then (f_X1_withoutLast_6 (jlushr x0 x1) (x0 &&& ((jlshl (1 : Int64) x1) - (1 : Int64))) (jlshl (1 : Int64) (x1 - (1 : Int32)))) else (0 : Int64)
def f_X1_withoutLast_8 (x0 : Int64) (x1 : Int32) : Int64 := if 0 < x1 then (f_X1_withoutLast_7 x0 x1) else (jlshl x0 (-x1))
def f_X1_withoutLast (x0 : Int64) (x1 : Int32) : Int64 := (f_X1_withoutLast_8 x0 x1)
def zX1_withoutLast : List Cond := .code yX1_withoutLast cX1_withoutLast 10 (some .long) :: zall
theorem iX1_withoutLast : MWs yX1_withoutLast (.code yX1_withoutLast cX1_withoutLast 10 (some .long)) := ⟨(zin__r10 (.static yX1_withoutLast) (List.mem_of_getElem? (i := 5) rfl)), (zin__r3 (.initialized RX1) (List.mem_of_getElem? (i := 20) rfl)), (zin__r10 (.code yX1_withoutLast cX1_withoutLast 10 (some .long)) (List.mem_of_getElem? (i := 6) rfl))⟩
set_option maxHeartbeats 4000000 in
set_option maxRecDepth 100000 in
theorem c_X1_withoutLast (l : Launch) (x0 : Int64) (x1 : Int32) : Met l yX1_withoutLast zX1_withoutLast ({ frames := 0, cells := 0, slots := 0, locals := 0 }) (va_Pc [.long x0, .int x1] (fun U => True)) (vp_Sl (fun r => r = f_X1_withoutLast x0 x1)) 0 0 (fun _ => False) := by
  refine Met.ofW (cc := cX1_withoutLast) (maxL := 10) (ret := (some .long)) (by decide) rfl ?_
  intro p e s m args below meth c s₁ B hml hv
  obtain ⟨rfl, -⟩ := hv
  have hx := B.exec
  have hb := B.bytes
  have hr := B.returns
  have hts : ∀ w ∈ zall, w.before _ s = true := fun w h => atoms_spec (ws := zX1_withoutLast) B.pre w (List.mem_cons_of_mem _ h)
  have hown : s.vm.findClass RX1 = some m.cls := findClass_of_methodNamed B.named
  have hlocks := B.notSynchronized
  have hl := lv_entry ([.long x0, .int x1]) (n := 10) (Nat.le_of_ble_eq_true rfl)
  rw [lg_entry_eq]
  generalize (lg_sl ([.long x0, .int x1]) ++ List.replicate (10 - (lg_sl ([.long x0, .int x1])).length) Slot.unset).toArray = ls at hl ⊢
  have hl : lv_has ls 10 [(0, .long x0), (2, .int x1)] := hl
  have hf : f_X1_withoutLast x0 x1 = (f_X1_withoutLast_8 x0 x1) := rfl
  refine lv_iload_n hx hb dX1_withoutLast_0 rfl (lv_at hl 1 rfl) ?_
  refine lv_if_gt (tgt := 9) hx hb dX1_withoutLast_1 (by decide) (fun c_1 => ?_) (fun c_1 => ?_)
  · have hf : f_X1_withoutLast x0 x1 = (f_X1_withoutLast_7 x0 x1) := hf.trans (if_pos c_1)
    refine lv_iload_n hx hb dX1_withoutLast_9 rfl (lv_at hl 1 rfl) ?_
    refine lv_bipush (v := 63) hx hb dX1_withoutLast_10 (by decide) ?_
    refine lv_icmp_le (tgt := 17) hx hb dX1_withoutLast_12 (by decide) (fun c_12 => ?_) (fun c_12 => ?_)
    · have hf : f_X1_withoutLast x0 x1 = (f_X1_withoutLast_6 (jlushr x0 x1) (x0 &&& ((jlshl (1 : Int64) x1) - (1 : Int64))) (jlshl (1 : Int64) (x1 - (1 : Int32)))) := hf.trans (if_pos c_12)
      refine lv_lload_n hx hb dX1_withoutLast_17 rfl (lv_at hl 0 rfl) ?_
      refine lv_iload_n hx hb dX1_withoutLast_18 rfl (lv_at hl 1 rfl) ?_
      refine lv_lushr (v := (jlushr x0 x1)) hx hb dX1_withoutLast_19 rfl ?_
      refine lv_topl (fun v3_1 e_v3_1 => ?_)
      have hf : f_X1_withoutLast x0 x1 = (f_X1_withoutLast_6 v3_1 (x0 &&& ((jlshl (1 : Int64) x1) - (1 : Int64))) (jlshl (1 : Int64) (x1 - (1 : Int32)))) := hf.trans (congrArg (fun z => (f_X1_withoutLast_6 z (x0 &&& ((jlshl (1 : Int64) x1) - (1 : Int64))) (jlshl (1 : Int64) (x1 - (1 : Int32))))) e_v3_1.symm)
      refine lv_lstore_n (lv' := [(3, .long v3_1), (0, .long x0), (2, .int x1)]) hx hb dX1_withoutLast_20 rfl hl (by decide) rfl (fun ls hl => ?_)
      refine lv_lload_n hx hb dX1_withoutLast_21 rfl (lv_at hl 1 rfl) ?_
      refine lv_lconst (v := 1) hx hb dX1_withoutLast_22 (by decide) ?_
      refine lv_iload_n hx hb dX1_withoutLast_23 rfl (lv_at hl 2 rfl) ?_
      refine lv_lshl (v := (jlshl (1 : Int64) x1)) hx hb dX1_withoutLast_24 rfl ?_
      refine lv_lconst (v := 1) hx hb dX1_withoutLast_25 (by decide) ?_
      refine lv_lsub hx hb dX1_withoutLast_26 ?_
      refine lv_land hx hb dX1_withoutLast_27 ?_
      refine lv_topl (fun v5_2 e_v5_2 => ?_)
      have hf : f_X1_withoutLast x0 x1 = (f_X1_withoutLast_6 v3_1 v5_2 (jlshl (1 : Int64) (x1 - (1 : Int32)))) := hf.trans (congrArg (fun z => (f_X1_withoutLast_6 v3_1 z (jlshl (1 : Int64) (x1 - (1 : Int32))))) e_v5_2.symm)
      refine lv_lstore (lv' := [(5, .long v5_2), (3, .long v3_1), (0, .long x0), (2, .int x1)]) hx hb dX1_withoutLast_28 hl (by decide) rfl (fun ls hl => ?_)
      refine lv_lconst (v := 1) hx hb dX1_withoutLast_30 (by decide) ?_
      refine lv_iload_n hx hb dX1_withoutLast_31 rfl (lv_at hl 3 rfl) ?_
      refine lv_iconst (v := 1) hx hb dX1_withoutLast_32 (by decide) ?_
      refine lv_isub hx hb dX1_withoutLast_33 ?_
      refine lv_lshl (v := (jlshl (1 : Int64) (x1 - (1 : Int32)))) hx hb dX1_withoutLast_34 rfl ?_
      refine lv_topl (fun v7_3 e_v7_3 => ?_)
      have hf : f_X1_withoutLast x0 x1 = (f_X1_withoutLast_6 v3_1 v5_2 v7_3) := hf.trans (congrArg (fun z => (f_X1_withoutLast_6 v3_1 v5_2 z)) e_v7_3.symm)
      refine lv_lstore (lv' := [(7, .long v7_3), (5, .long v5_2), (3, .long v3_1), (0, .long x0), (2, .int x1)]) hx hb dX1_withoutLast_35 hl (by decide) rfl (fun ls hl => ?_)
      refine lv_lload hx hb dX1_withoutLast_37 (lv_at hl 1 rfl) ?_
      refine lv_lload hx hb dX1_withoutLast_39 (lv_at hl 0 rfl) ?_
      refine W.lcmp hx hb dX1_withoutLast_41 ?_
      refine W_cut (α := Int32) (pcJ := 66) (nL := 10) (fun v => f_X1_withoutLast x0 x1 = (f_X1_withoutLast_1 v3_1 v)) (fun v => [.int v]) (fun v => [(3, .long v3_1)]) (fun w_4 ls hf hl => ?_) (fun K_66 => ?_)
      · have hf : f_X1_withoutLast x0 x1 = (f_X1_withoutLast_1 v3_1 w_4) := hf
        have hl : lv_has ls 10 [(3, .long v3_1)] := hl
        refine lv_istore (lv' := [(9, .int w_4), (3, .long v3_1)]) hx hb dX1_withoutLast_66 hl (by decide) rfl (fun ls hl => ?_)
        refine lv_iload hx hb dX1_withoutLast_68 (lv_at hl 0 rfl) ?_
        refine lv_if_eq (tgt := 79) hx hb dX1_withoutLast_70 (by decide) (fun c_70 => ?_) (fun c_70 => ?_)
        · have hf : f_X1_withoutLast x0 x1 = v3_1 := hf.trans (if_pos c_70)
          refine lv_lload_n hx hb dX1_withoutLast_79 rfl (lv_at hl 1 rfl) ?_
          exact W.lret hx hb hr (fun t ht hW => ⟨_, rfl, hf.symm, ht⟩) (fun q hq => absurd hq List.not_mem_nil) dX1_withoutLast_80
        · have hf : f_X1_withoutLast x0 x1 = (v3_1 + (1 : Int64)) := hf.trans (if_neg c_70)
          refine lv_lload_n hx hb dX1_withoutLast_73 rfl (lv_at hl 1 rfl) ?_
          refine lv_lconst (v := 1) hx hb dX1_withoutLast_74 (by decide) ?_
          refine lv_ladd hx hb dX1_withoutLast_75 ?_
          refine lv_goto (tgt := 80) hx hb dX1_withoutLast_76 (by decide) ?_
          exact W.lret hx hb hr (fun t ht hW => ⟨_, rfl, hf.symm, ht⟩) (fun q hq => absurd hq List.not_mem_nil) dX1_withoutLast_80
      refine W_cut (α := Unit) (pcJ := 61) (nL := 10) (fun v => f_X1_withoutLast x0 x1 = (f_X1_withoutLast_2 v3_1)) (fun v => []) (fun v => [(3, .long v3_1)]) (fun v ls hf hl => ?_) (fun K_61 => ?_)
      · have hf : f_X1_withoutLast x0 x1 = (f_X1_withoutLast_1 v3_1 (1 : Int32)) := hf
        have hl : lv_has ls 10 [(3, .long v3_1)] := hl
        refine lv_iconst (v := 1) hx hb dX1_withoutLast_61 (by decide) ?_
        refine lv_goto (tgt := 66) hx hb dX1_withoutLast_62 (by decide) ?_
        exact K_66 (1 : Int32) ls hf (lv_sub hl [0] rfl)
      refine lv_if_gt (tgt := 61) hx hb dX1_withoutLast_42 (by decide) (fun c_42 => ?_) (fun c_42 => ?_)
      · have c_42 : v7_3 < v5_2 := (lg_cmp_gt v5_2 v7_3).mp c_42
        have hf : f_X1_withoutLast x0 x1 = (f_X1_withoutLast_2 v3_1) := hf.trans (if_pos c_42)
        exact K_61 () ls hf (lv_sub hl [2] rfl)
      · have c_42 : ¬ (v7_3 < v5_2) := fun h9 => c_42 ((lg_cmp_gt v5_2 v7_3).mpr h9)
        have hf : f_X1_withoutLast x0 x1 = (f_X1_withoutLast_5 v3_1 v5_2 v7_3) := hf.trans (if_neg c_42)
        refine lv_lload hx hb dX1_withoutLast_45 (lv_at hl 1 rfl) ?_
        refine lv_lload hx hb dX1_withoutLast_47 (lv_at hl 0 rfl) ?_
        refine W.lcmp hx hb dX1_withoutLast_49 ?_
        refine W_cut (α := Unit) (pcJ := 65) (nL := 10) (fun v => f_X1_withoutLast x0 x1 = (f_X1_withoutLast_3 v3_1)) (fun v => []) (fun v => [(3, .long v3_1)]) (fun v ls hf hl => ?_) (fun K_65 => ?_)
        · have hf : f_X1_withoutLast x0 x1 = (f_X1_withoutLast_1 v3_1 (0 : Int32)) := hf
          have hl : lv_has ls 10 [(3, .long v3_1)] := hl
          refine lv_iconst (v := 0) hx hb dX1_withoutLast_65 (by decide) ?_
          exact K_66 (0 : Int32) ls hf (lv_sub hl [0] rfl)
        refine lv_if_ne (tgt := 65) hx hb dX1_withoutLast_50 (by decide) (fun c_50 => ?_) (fun c_50 => ?_)
        · have c_50 : ¬ (v5_2 = v7_3) := fun h9 => c_50 ((lg_cmp_eq v5_2 v7_3).mpr h9)
          have hf : f_X1_withoutLast x0 x1 = (f_X1_withoutLast_3 v3_1) := hf.trans (if_neg c_50)
          exact K_65 () ls hf (lv_sub hl [2] rfl)
        · have c_50 : v5_2 = v7_3 := (lg_cmp_eq v5_2 v7_3).mp c_50
          have hf : f_X1_withoutLast x0 x1 = (f_X1_withoutLast_4 v3_1) := hf.trans (if_pos c_50)
          refine lv_lload_n hx hb dX1_withoutLast_53 rfl (lv_at hl 2 rfl) ?_
          refine lv_lconst (v := 1) hx hb dX1_withoutLast_54 (by decide) ?_
          refine lv_land hx hb dX1_withoutLast_55 ?_
          refine lv_lconst (v := 1) hx hb dX1_withoutLast_56 (by decide) ?_
          refine W.lcmp hx hb dX1_withoutLast_57 ?_
          refine lv_if_ne (tgt := 65) hx hb dX1_withoutLast_58 (by decide) (fun c_58 => ?_) (fun c_58 => ?_)
          · have c_58 : ¬ ((v3_1 &&& (1 : Int64)) = (1 : Int64)) := fun h9 => c_58 ((lg_cmp_eq (v3_1 &&& (1 : Int64)) (1 : Int64)).mpr h9)
            have hf : f_X1_withoutLast x0 x1 = (f_X1_withoutLast_3 v3_1) := hf.trans (if_neg c_58)
            exact K_65 () ls hf (lv_sub hl [2] rfl)
          · have c_58 : (v3_1 &&& (1 : Int64)) = (1 : Int64) := (lg_cmp_eq (v3_1 &&& (1 : Int64)) (1 : Int64)).mp c_58
            have hf : f_X1_withoutLast x0 x1 = (f_X1_withoutLast_2 v3_1) := hf.trans (if_pos c_58)
            exact K_61 () ls hf (lv_sub hl [2] rfl)
    · have hf : f_X1_withoutLast x0 x1 = (0 : Int64) := hf.trans (if_neg c_12)
      refine lv_lconst (v := 0) hx hb dX1_withoutLast_15 (by decide) ?_
      exact W.lret hx hb hr (fun t ht hW => ⟨_, rfl, hf.symm, ht⟩) (fun q hq => absurd hq List.not_mem_nil) dX1_withoutLast_16
  · have hf : f_X1_withoutLast x0 x1 = (jlshl x0 (-x1)) := hf.trans (if_neg c_1)
    refine lv_lload_n hx hb dX1_withoutLast_4 rfl (lv_at hl 0 rfl) ?_
    refine lv_iload_n hx hb dX1_withoutLast_5 rfl (lv_at hl 1 rfl) ?_
    refine lv_ineg hx hb dX1_withoutLast_6 ?_
    refine lv_lshl (v := (jlshl x0 (-x1))) hx hb dX1_withoutLast_7 rfl ?_
    exact W.lret hx hb hr (fun t ht hW => ⟨_, rfl, hf.symm, ht⟩) (fun q hq => absurd hq List.not_mem_nil) dX1_withoutLast_8
def f_X1_rounded_1 (i : Nat) (x0 : Int32) (x1 : Int64) (v6_2 : Int32) (v7_3 : Int32) : Int64 := if v7_3 < ((ktop i) - (1 : Int32)) then (f_X1_signed i x0 ((jlshl ((v7_3).toInt64) (kfb i)) + (f_X1_withoutLast x1 v6_2))) else (f_X1_signed i x0 (kinf i))
def f_X1_rounded_2 (i : Nat) (x0 : Int32) (x1 : Int64) (x2 : Int32) (v6_2 : Int32) : Int64 := (f_X1_rounded_1 i x0 x1 v6_2 ((x2 + v6_2) - (klow i)))
def f_X1_rounded_3 (i : Nat) (x0 : Int32) (x1 : Int64) (x2 : Int32) : Int64 := if x1 = (0 : Int64) then (f_X1_signed i x0 (0 : Int64)) else (f_X1_rounded_2 i x0 x1 x2 (jmaxI ((((64 : Int32) - (f_J13_numberOfLeadingZeros_95d88 x1)) - (1 : Int32)) - (kfb i)) ((klow i) - x2)))
def f_X1_rounded (i : Nat) (x0 : Int32) (x1 : Int64) (x2 : Int32) : Int64 := (f_X1_rounded_3 i x0 x1 x2)
def zX1_rounded : List Cond := .code yX1_rounded cX1_rounded 10 (some .long) :: zall
theorem iX1_rounded : MWv RX1 yX1_rounded (.code yX1_rounded cX1_rounded 10 (some .long)) := ⟨(zin__r9 (.instanceMethod yX1_rounded) (List.mem_of_getElem? (i := 12) rfl)), (zin__r9 (.selects RX1 yX1_rounded yX1_rounded) (List.mem_of_getElem? (i := 13) rfl)), (zin__r3 (.initialized RX1) (List.mem_of_getElem? (i := 20) rfl)), (zin__r9 (.code yX1_rounded cX1_rounded 10 (some .long)) (List.mem_of_getElem? (i := 14) rfl))⟩
set_option maxHeartbeats 4000000 in
set_option maxRecDepth 100000 in
theorem c_X1_rounded (l : Launch) (ad : Nat → Nat) (i : Nat) (h_i : i < 2) (x0 : Int32) (x1 : Int64) (x2 : Int32) : Met l yX1_rounded zX1_rounded ({ frames := 2, cells := 0, slots := 0, locals := 43 }) (va_Pc [.ref (ad i), .int x0, .long x1, .int x2] (fun U => kU ad U)) (vp_Sl (fun r => r = f_X1_rounded i x0 x1 x2)) 0 0 (fun _ => False) := by
  refine Met.ofW (cc := cX1_rounded) (maxL := 10) (ret := (some .long)) (by decide) rfl ?_
  intro p e s m args below meth c s₁ B hml hv
  obtain ⟨rfl, hk⟩ := hv
  have hx := B.exec
  have hb := B.bytes
  have hr := B.returns
  have hts : ∀ w ∈ zall, w.before _ s = true := fun w h => atoms_spec (ws := zX1_rounded) B.pre w (List.mem_cons_of_mem _ h)
  have hown : s.vm.findClass RX1 = some m.cls := findClass_of_methodNamed B.named
  have hlocks := B.notSynchronized
  have hl := lv_entry ([.ref (ad i), .int x0, .long x1, .int x2]) (n := 10) (Nat.le_of_ble_eq_true rfl)
  rw [lg_entry_eq]
  generalize (lg_sl ([.ref (ad i), .int x0, .long x1, .int x2]) ++ List.replicate (10 - (lg_sl ([.ref (ad i), .int x0, .long x1, .int x2])).length) Slot.unset).toArray = ls at hl ⊢
  have hl : lv_has ls 10 [(0, .ref (ad i)), (1, .int x0), (2, .long x1), (4, .int x2)] := hl
  have hf : f_X1_rounded i x0 x1 x2 = (f_X1_rounded_3 i x0 x1 x2) := rfl
  refine lv_lload_n hx hb dX1_rounded_0 rfl (lv_at hl 2 rfl) ?_
  refine lv_lconst (v := 0) hx hb dX1_rounded_1 (by decide) ?_
  refine W.lcmp hx hb dX1_rounded_2 ?_
  refine lv_if_ne (tgt := 13) hx hb dX1_rounded_3 (by decide) (fun c_3 => ?_) (fun c_3 => ?_)
  · have c_3 : ¬ (x1 = (0 : Int64)) := fun h9 => c_3 ((lg_cmp_eq x1 (0 : Int64)).mpr h9)
    have hf : f_X1_rounded i x0 x1 x2 = (f_X1_rounded_2 i x0 x1 x2 (jmaxI ((((64 : Int32) - (f_J13_numberOfLeadingZeros_95d88 x1)) - (1 : Int32)) - (kfb i)) ((klow i) - x2))) := hf.trans (if_neg c_3)
    refine lv_bipush (v := 64) hx hb dX1_rounded_13 (by decide) ?_
    refine lv_lload_n hx hb dX1_rounded_15 rfl (lv_at hl 2 rfl) ?_
    refine vp_callSi (va_Run.run (va_runS (As := [.long x1]) (rest := [.int (64 : Int32)]) ⟨hx, hb, hml, hown, hts⟩ (c_J13_numberOfLeadingZeros_95d88 l  x1) (va_cwS 1 hts (gS iJ13_numberOfLeadingZeros_95d88 (zin__r9 (.methodLink RX1 98 yJ13_numberOfLeadingZeros_95d88) (List.mem_of_getElem? (i := 19) rfl))) rfl rfl rfl (by decide +kernel) ⟨Nat.le_of_ble_eq_true rfl, Nat.le_of_ble_eq_true rfl⟩) ⟨fun a U g mk q => ⟨q.1, trivial⟩, fun U hU hW => ⟨rfl, trivial⟩⟩ rfl rfl hl.1 rfl (lv_room (Nat.le_of_ble_eq_true rfl)) dX1_rounded_16 ⟨Nat.zero_le _, Nat.zero_le _⟩)) (fun r_16 hr_16 => ?_)
    subst hr_16
    refine lv_isub hx hb dX1_rounded_19 ?_
    refine lv_topi (fun v5_1 e_v5_1 => ?_)
    have hf : f_X1_rounded i x0 x1 x2 = (f_X1_rounded_2 i x0 x1 x2 (jmaxI ((v5_1 - (1 : Int32)) - (kfb i)) ((klow i) - x2))) := hf.trans (congrArg (fun z => (f_X1_rounded_2 i x0 x1 x2 (jmaxI ((z - (1 : Int32)) - (kfb i)) ((klow i) - x2)))) e_v5_1.symm)
    refine lv_istore (lv' := [(5, .int v5_1), (0, .ref (ad i)), (1, .int x0), (2, .long x1), (4, .int x2)]) hx hb dX1_rounded_20 hl (by decide) rfl (fun ls hl => ?_)
    refine lv_iload hx hb dX1_rounded_22 (lv_at hl 0 rfl) ?_
    refine lv_iconst (v := 1) hx hb dX1_rounded_24 (by decide) ?_
    refine lv_isub hx hb dX1_rounded_25 ?_
    refine lv_aload_n hx hb dX1_rounded_26 rfl (lv_at hl 1 rfl) ?_
    refine vk_getf hx hb (kE_fractionBits hk h_i) va_S.rf hown (hts _ (zin__r9 (.fieldLink RX1 29 "ReckonBench$Kind" "fractionBits" "I") (List.mem_of_getElem? (i := 0) rfl))) (fun _ h9 => h9) dX1_rounded_27 ?_
    refine lv_isub hx hb dX1_rounded_30 ?_
    refine lv_aload_n hx hb dX1_rounded_31 rfl (lv_at hl 1 rfl) ?_
    refine vk_getf hx hb (kE_lowest hk h_i) va_S.rf hown (hts _ (zin__r8 (.fieldLink RX1 36 "ReckonBench$Kind" "lowest" "I") (List.mem_of_getElem? (i := 19) rfl))) (fun _ h9 => h9) dX1_rounded_32 ?_
    refine lv_iload hx hb dX1_rounded_35 (lv_at hl 4 rfl) ?_
    refine lv_isub hx hb dX1_rounded_37 ?_
    refine va_mmax hx hb (hml.trans hl.1.symm) hown (hts _ (zin__r8 (.methodLink RX1 64 Lib.Math.max.name) (List.mem_of_getElem? (i := 16) rfl))) (hts _ (zin__r8 (.static Lib.Math.max.name) (List.mem_of_getElem? (i := 17) rfl))) (hts _ (zin__r8 (.initialized "java/lang/Math") (List.mem_of_getElem? (i := 10) rfl))) (hts _ (zin__r8 (.code Lib.Math.max.name Lib.Math.max.code 2 (some .int)) (List.mem_of_getElem? (i := 18) rfl))) (Nat.le_of_ble_eq_true rfl) (Nat.le_of_ble_eq_true rfl) (Nat.zero_le _) (Nat.zero_le _) dX1_rounded_38 ?_
    refine lv_topi (fun v6_2 e_v6_2 => ?_)
    have hf : f_X1_rounded i x0 x1 x2 = (f_X1_rounded_2 i x0 x1 x2 v6_2) := hf.trans (congrArg (fun z => (f_X1_rounded_2 i x0 x1 x2 z)) e_v6_2.symm)
    refine lv_istore (lv' := [(6, .int v6_2), (5, .int v5_1), (0, .ref (ad i)), (1, .int x0), (2, .long x1), (4, .int x2)]) hx hb dX1_rounded_41 hl (by decide) rfl (fun ls hl => ?_)
    refine lv_iload hx hb dX1_rounded_43 (lv_at hl 5 rfl) ?_
    refine lv_iload hx hb dX1_rounded_45 (lv_at hl 0 rfl) ?_
    refine lv_iadd hx hb dX1_rounded_47 ?_
    refine lv_aload_n hx hb dX1_rounded_48 rfl (lv_at hl 2 rfl) ?_
    refine vk_getf hx hb (kE_lowest hk h_i) va_S.rf hown (hts _ (zin__r8 (.fieldLink RX1 36 "ReckonBench$Kind" "lowest" "I") (List.mem_of_getElem? (i := 19) rfl))) (fun _ h9 => h9) dX1_rounded_49 ?_
    refine lv_isub hx hb dX1_rounded_52 ?_
    refine lv_topi (fun v7_3 e_v7_3 => ?_)
    have hf : f_X1_rounded i x0 x1 x2 = (f_X1_rounded_1 i x0 x1 v6_2 v7_3) := hf.trans (congrArg (fun z => (f_X1_rounded_1 i x0 x1 v6_2 z)) e_v7_3.symm)
    refine lv_istore (lv' := [(7, .int v7_3), (6, .int v6_2), (5, .int v5_1), (0, .ref (ad i)), (1, .int x0), (2, .long x1), (4, .int x2)]) hx hb dX1_rounded_53 hl (by decide) rfl (fun ls hl => ?_)
    refine lv_iload hx hb dX1_rounded_55 (lv_at hl 0 rfl) ?_
    refine lv_aload_n hx hb dX1_rounded_57 rfl (lv_at hl 3 rfl) ?_
    refine vk_getf hx hb (kE_topField hk h_i) va_S.rf hown (hts _ (zin__r9 (.fieldLink RX1 33 "ReckonBench$Kind" "topField" "I") (List.mem_of_getElem? (i := 1) rfl))) (fun _ h9 => h9) dX1_rounded_58 ?_
    refine lv_iconst (v := 1) hx hb dX1_rounded_61 (by decide) ?_
    refine lv_isub hx hb dX1_rounded_62 ?_
    refine lv_icmp_lt (tgt := 76) hx hb dX1_rounded_63 (by decide) (fun c_63 => ?_) (fun c_63 => ?_)
    · have hf : f_X1_rounded i x0 x1 x2 = (f_X1_signed i x0 ((jlshl ((v7_3).toInt64) (kfb i)) + (f_X1_withoutLast x1 v6_2))) := hf.trans (if_pos c_63)
      refine lv_iload hx hb dX1_rounded_76 (lv_at hl 0 rfl) ?_
      refine lv_i2l (v := ((v7_3).toInt64)) hx hb dX1_rounded_78 rfl ?_
      refine lv_aload_n hx hb dX1_rounded_79 rfl (lv_at hl 3 rfl) ?_
      refine vk_getf hx hb (kE_fractionBits hk h_i) va_S.rf hown (hts _ (zin__r9 (.fieldLink RX1 29 "ReckonBench$Kind" "fractionBits" "I") (List.mem_of_getElem? (i := 0) rfl))) (fun _ h9 => h9) dX1_rounded_80 ?_
      refine lv_lshl (v := (jlshl ((v7_3).toInt64) (kfb i))) hx hb dX1_rounded_83 rfl ?_
      refine lv_lload_n hx hb dX1_rounded_84 rfl (lv_at hl 5 rfl) ?_
      refine lv_iload hx hb dX1_rounded_85 (lv_at hl 1 rfl) ?_
      refine vp_callSl (va_Run.run (va_runS (As := [.long x1, .int v6_2]) (rest := [.long (jlshl ((v7_3).toInt64) (kfb i))]) ⟨hx, hb, hml, hown, hts⟩ (c_X1_withoutLast l  x1 v6_2) (va_cwS 2 hts (gS iX1_withoutLast (zin__r10 (.methodLink RX1 103 yX1_withoutLast) (List.mem_of_getElem? (i := 4) rfl))) rfl rfl rfl (by decide +kernel) ⟨Nat.le_of_ble_eq_true rfl, Nat.le_of_ble_eq_true rfl⟩) ⟨fun a U g mk q => ⟨q.1, trivial⟩, fun U hU hW => ⟨rfl, trivial⟩⟩ rfl rfl hl.1 rfl (lv_room (Nat.le_of_ble_eq_true rfl)) dX1_rounded_87 ⟨Nat.zero_le _, Nat.zero_le _⟩)) (fun r_87 hr_87 => ?_)
      subst hr_87
      refine lv_ladd hx hb dX1_rounded_90 ?_
      refine lv_topl (fun v8_4 e_v8_4 => ?_)
      have hf : f_X1_rounded i x0 x1 x2 = (f_X1_signed i x0 v8_4) := hf.trans (congrArg (fun z => (f_X1_signed i x0 z)) e_v8_4.symm)
      refine lv_lstore (lv' := [(8, .long v8_4), (7, .int v7_3), (6, .int v6_2), (5, .int v5_1), (0, .ref (ad i)), (1, .int x0), (2, .long x1), (4, .int x2)]) hx hb dX1_rounded_91 hl (by decide) rfl (fun ls hl => ?_)
      refine lv_aload_n hx hb dX1_rounded_93 rfl (lv_at hl 4 rfl) ?_
      refine lv_iload_n hx hb dX1_rounded_94 rfl (lv_at hl 5 rfl) ?_
      refine lv_lload hx hb dX1_rounded_95 (lv_at hl 0 rfl) ?_
      refine vp_callSl (va_Run.run (va_runV (As := [.int x0, .long v8_4]) (rest := []) ⟨hx, hb, hml, hown, hts⟩ (c_X1_signed l ad i h_i x0 v8_4) (cwV 2 hts (gV iX1_signed (zin__r9 (.methodLink RX1 91 yX1_signed) (List.mem_of_getElem? (i := 15) rfl))) rfl rfl rfl (by decide +kernel) ⟨Nat.le_of_ble_eq_true rfl, Nat.le_of_ble_eq_true rfl⟩) ⟨fun a U g mk q => ⟨q.1, kU_bl q.2⟩, (kU_rv hk h_i), fun U hU hW => ⟨rfl, kU_mv hk hU hW⟩⟩ rfl rfl hl.1 rfl (lv_room (Nat.le_of_ble_eq_true rfl)) dX1_rounded_97 ⟨Nat.zero_le _, Nat.zero_le _⟩)) (fun r_97 hr_97 => ?_)
      subst hr_97
      exact W.lret hx hb hr (fun t ht hW => ⟨_, rfl, hf.symm, ht⟩) (fun q hq => absurd hq List.not_mem_nil) dX1_rounded_100
    · have hf : f_X1_rounded i x0 x1 x2 = (f_X1_signed i x0 (kinf i)) := hf.trans (if_neg c_63)
      refine lv_aload_n hx hb dX1_rounded_66 rfl (lv_at hl 3 rfl) ?_
      refine lv_iload_n hx hb dX1_rounded_67 rfl (lv_at hl 4 rfl) ?_
      refine lv_aload_n hx hb dX1_rounded_68 rfl (lv_at hl 3 rfl) ?_
      refine vk_getf hx hb (kE_infinite hk h_i) va_S.rf hown (hts _ (zin__r4 (.fieldLink RX1 43 "ReckonBench$Kind" "infinite" "J") (List.mem_of_getElem? (i := 4) rfl))) (fun _ h9 => h9) dX1_rounded_69 ?_
      refine vp_callSl (va_Run.run (va_runV (As := [.int x0, .long (kinf i)]) (rest := []) ⟨hx, hb, hml, hown, hts⟩ (c_X1_signed l ad i h_i x0 (kinf i)) (cwV 2 hts (gV iX1_signed (zin__r9 (.methodLink RX1 91 yX1_signed) (List.mem_of_getElem? (i := 15) rfl))) rfl rfl rfl (by decide +kernel) ⟨Nat.le_of_ble_eq_true rfl, Nat.le_of_ble_eq_true rfl⟩) ⟨fun a U g mk q => ⟨q.1, kU_bl q.2⟩, (kU_rv hk h_i), fun U hU hW => ⟨rfl, kU_mv hk hU hW⟩⟩ rfl rfl hl.1 rfl (lv_room (Nat.le_of_ble_eq_true rfl)) dX1_rounded_72 ⟨Nat.zero_le _, Nat.zero_le _⟩)) (fun r_72 hr_72 => ?_)
      subst hr_72
      exact W.lret hx hb hr (fun t ht hW => ⟨_, rfl, hf.symm, ht⟩) (fun q hq => absurd hq List.not_mem_nil) dX1_rounded_75
  · have c_3 : x1 = (0 : Int64) := (lg_cmp_eq x1 (0 : Int64)).mp c_3
    have hf : f_X1_rounded i x0 x1 x2 = (f_X1_signed i x0 (0 : Int64)) := hf.trans (if_pos c_3)
    refine lv_aload_n hx hb dX1_rounded_6 rfl (lv_at hl 0 rfl) ?_
    refine lv_iload_n hx hb dX1_rounded_7 rfl (lv_at hl 1 rfl) ?_
    refine lv_lconst (v := 0) hx hb dX1_rounded_8 (by decide) ?_
    refine vp_callSl (va_Run.run (va_runV (As := [.int x0, .long (0 : Int64)]) (rest := []) ⟨hx, hb, hml, hown, hts⟩ (c_X1_signed l ad i h_i x0 (0 : Int64)) (cwV 2 hts (gV iX1_signed (zin__r9 (.methodLink RX1 91 yX1_signed) (List.mem_of_getElem? (i := 15) rfl))) rfl rfl rfl (by decide +kernel) ⟨Nat.le_of_ble_eq_true rfl, Nat.le_of_ble_eq_true rfl⟩) ⟨fun a U g mk q => ⟨q.1, kU_bl q.2⟩, (kU_rv hk h_i), fun U hU hW => ⟨rfl, kU_mv hk hU hW⟩⟩ rfl rfl hl.1 rfl (lv_room (Nat.le_of_ble_eq_true rfl)) dX1_rounded_9 ⟨Nat.zero_le _, Nat.zero_le _⟩)) (fun r_9 hr_9 => ?_)
    subst hr_9
    exact W.lret hx hb hr (fun t ht hW => ⟨_, rfl, hf.symm, ht⟩) (fun q hq => absurd hq List.not_mem_nil) dX1_rounded_12

