-- the law's own small methods
theorem cell_in {n : Nat} (hn : n ≤ 260) {x : Int32} (h1 : ¬ x < 0) (h2 : ¬ nI n ≤ x) : vp_in x n := by
  obtain ⟨q, hq, rfl⟩ := nI_of h1
  rw [nI_leI (by omega) hq] at h2
  exact vp_in_nI (by omega) (by omega)
def f_L_round_1 (x0 : Int32) : Int32 := if x0 = (52 : Int32) then (41 : Int32) else x0
def f_L_round_2 (x0 : Int32) : Int32 := if x0 = (41 : Int32) then (52 : Int32) else (f_L_round_1 x0)
def f_L_round (x0 : Int32) : Int32 := (f_L_round_2 x0)
def zL_round : List Cond := .code yL_round cL_round 1 (some .int) :: zall
theorem iL_round : MWs yL_round (.code yL_round cL_round 1 (some .int)) := ⟨(zin__r6 (.static yL_round) (List.mem_of_getElem? (i := 7) rfl)), (zin__r2 (.initialized RL) (List.mem_of_getElem? (i := 4) rfl)), (zin__r6 (.code yL_round cL_round 1 (some .int)) (List.mem_of_getElem? (i := 8) rfl))⟩
set_option maxHeartbeats 4000000 in
set_option maxRecDepth 100000 in
theorem c_L_round (l : Launch) (x0 : Int32) : Met l yL_round zL_round ({ frames := 0, cells := 0, slots := 0, locals := 0 }) (va_Pc [.int x0] (fun U => True)) (vp_Si (fun r => r = f_L_round x0)) 0 0 (fun _ => False) := by
  refine Met.ofW (cc := cL_round) (maxL := 1) (ret := (some .int)) (by decide) rfl ?_
  intro p e s m args below meth c s₁ B hml hv
  obtain ⟨rfl, -⟩ := hv
  have hx := B.exec
  have hb := B.bytes
  have hr := B.returns
  have hts : ∀ w ∈ zall, w.before _ s = true := fun w h => atoms_spec (ws := zL_round) B.pre w (List.mem_cons_of_mem _ h)
  have hown : s.vm.findClass RL = some m.cls := findClass_of_methodNamed B.named
  have hlocks := B.notSynchronized
  have hl := lv_entry ([.int x0]) (n := 1) (Nat.le_of_ble_eq_true rfl)
  rw [lg_entry_eq]
  generalize (lg_sl ([.int x0]) ++ List.replicate (1 - (lg_sl ([.int x0])).length) Slot.unset).toArray = ls at hl ⊢
  have hl : lv_has ls 1 [(0, .int x0)] := hl
  have hf : f_L_round x0 = (f_L_round_2 x0) := rfl
  refine lv_iload_n hx hb dL_round_0 rfl (lv_at hl 0 rfl) ?_
  refine lv_bipush (v := 41) hx hb dL_round_1 (by decide) ?_
  refine lv_icmp_ne (tgt := 11) hx hb dL_round_3 (by decide) (fun c_3 => ?_) (fun c_3 => ?_)
  · have hf : f_L_round x0 = (f_L_round_1 x0) := hf.trans (if_neg c_3)
    refine lv_iload_n hx hb dL_round_11 rfl (lv_at hl 0 rfl) ?_
    refine lv_bipush (v := 52) hx hb dL_round_12 (by decide) ?_
    refine lv_icmp_ne (tgt := 22) hx hb dL_round_14 (by decide) (fun c_14 => ?_) (fun c_14 => ?_)
    · have hf : f_L_round x0 = x0 := hf.trans (if_neg c_14)
      refine lv_iload_n hx hb dL_round_22 rfl (lv_at hl 0 rfl) ?_
      exact W.iret hx hb hr (fun t ht hW => ⟨_, rfl, hf.symm, ht⟩) (fun q hq => absurd hq List.not_mem_nil) dL_round_23
    · have hf : f_L_round x0 = (41 : Int32) := hf.trans (if_pos c_14)
      refine lv_bipush (v := 41) hx hb dL_round_17 (by decide) ?_
      refine lv_goto (tgt := 23) hx hb dL_round_19 (by decide) ?_
      exact W.iret hx hb hr (fun t ht hW => ⟨_, rfl, hf.symm, ht⟩) (fun q hq => absurd hq List.not_mem_nil) dL_round_23
  · have hf : f_L_round x0 = (52 : Int32) := hf.trans (if_pos c_3)
    refine lv_bipush (v := 52) hx hb dL_round_6 (by decide) ?_
    refine lv_goto (tgt := 23) hx hb dL_round_8 (by decide) ?_
    exact W.iret hx hb hr (fun t ht hW => ⟨_, rfl, hf.symm, ht⟩) (fun q hq => absurd hq List.not_mem_nil) dL_round_23
theorem round_is (c : Int32) : f_L_round c = relT c := rfl
def zL_cell : List Cond := .code yL_cell cL_cell 2 (some .int) :: zall
theorem iL_cell : MWs yL_cell (.code yL_cell cL_cell 2 (some .int)) := ⟨(zin__r2 (.static yL_cell) (List.mem_of_getElem? (i := 3) rfl)), (zin__r2 (.initialized RL) (List.mem_of_getElem? (i := 4) rfl)), (zin__r2 (.code yL_cell cL_cell 2 (some .int)) (List.mem_of_getElem? (i := 5) rfl))⟩
set_option maxHeartbeats 4000000 in
theorem c_L_cell (l : Launch) (b L : Nat) (xs : Nat → Int32) (hL : L ≤ 260) (x1 : Int32) (h0 : ¬ x1 < 0) : Met l yL_cell zL_cell ({ frames := 0, cells := 0, slots := 0, locals := 0 }) (va_Pc [.ref b, .int x1] (fun U => va_T .int b L (fun j => .int (xs j)) nA U U.heap)) (vp_Si (fun _ => True)) 0 0 (fun _ => False) := by
  refine Met.ofW (cc := cL_cell) (maxL := 2) (ret := (some .int)) (by decide) rfl ?_
  intro p e s m args below meth c s₁ Bx hml hv
  obtain ⟨rfl, hT⟩ := hv
  have hx := Bx.exec
  have hb := Bx.bytes
  have hr := Bx.returns
  have hts : ∀ w ∈ zall, w.before _ s = true := fun w h => atoms_spec (ws := zL_cell) Bx.pre w (List.mem_cons_of_mem _ h)
  have hown : s.vm.findClass RL = some m.cls := findClass_of_methodNamed Bx.named
  have hlocks := Bx.notSynchronized
  have hl := lv_entry ([.ref b, .int x1]) (n := 2) (Nat.le_of_ble_eq_true rfl)
  rw [lg_entry_eq]
  generalize (lg_sl ([.ref b, .int x1]) ++ List.replicate (2 - (lg_sl ([.ref b, .int x1])).length) Slot.unset).toArray = ls at hl ⊢
  have hl : lv_has ls 2 [(0, .ref b), (1, .int x1)] := hl
  refine lv_iload_n hx hb dL_cell_0 rfl (lv_at hl 1 rfl) ?_
  refine lv_aload_n hx hb dL_cell_1 rfl (lv_at hl 0 rfl) ?_
  refine va_tlen hx hb hT va_S.rf (v := (nI L)) rfl dL_cell_2 ?_
  refine lv_icmp_ge (tgt := 12) hx hb dL_cell_3 (by decide) (fun c_3 => ?_) (fun c_3 => ?_)
  · refine lv_sipush (v := 12345) hx hb dL_cell_12 (by decide) ?_
    refine lv_iload_n hx hb dL_cell_15 rfl (lv_at hl 1 rfl) ?_
    refine lv_imul hx hb dL_cell_16 ?_
    exact W.iret hx hb hr (fun t ht hW => ⟨_, rfl, trivial, ht⟩) (fun q hq => absurd hq List.not_mem_nil) dL_cell_17
  · refine lv_aload_n hx hb dL_cell_6 rfl (lv_at hl 0 rfl) ?_
    refine lv_iload_n hx hb dL_cell_7 rfl (lv_at hl 1 rfl) ?_
    refine va_ti hx hb hT va_S.rf (cell_in hL h0 c_3) (v := .int (xs x1.toNatClampNeg)) rfl dL_cell_8 ?_
    refine lv_goto (tgt := 17) hx hb dL_cell_9 (by decide) ?_
    exact W.iret hx hb hr (fun t ht hW => ⟨_, rfl, trivial, ht⟩) (fun q hq => absurd hq List.not_mem_nil) dL_cell_17
