theorem ty_eqJ {D : va_G} {cl : List vw_C} {tys : List (ClassId × FieldType)} {s : State} {c1 c2 : ClassId} (hK : va_K D cl tys s) (i j : Nat) (h1 : tys[i]? = some (c1, .long)) (h2 : tys[j]? = some (c2, .long)) : c1 = c2 := by
  have a : s.vm.findClass ("[" ++ FieldType.long.toString) = some c1 := (hK.2 i _ h1).2
  have b : s.vm.findClass ("[" ++ FieldType.long.toString) = some c2 := (hK.2 j _ h2).2
  exact Option.some.inj (a.symm.trans b)
theorem ty_eqI {D : va_G} {cl : List vw_C} {tys : List (ClassId × FieldType)} {s : State} {c1 c2 : ClassId} (hK : va_K D cl tys s) (i j : Nat) (h1 : tys[i]? = some (c1, .int)) (h2 : tys[j]? = some (c2, .int)) : c1 = c2 := by
  have a : s.vm.findClass ("[" ++ FieldType.int.toString) = some c1 := (hK.2 i _ h1).2
  have b : s.vm.findClass ("[" ++ FieldType.int.toString) = some c2 := (hK.2 j _ h2).2
  exact Option.some.inj (a.symm.trans b)
theorem conv_i {D : va_G} {cl : List vw_C} {q n : Nat} {c : ClassId} {f g : Nat → Int32} {H : Heap} (h : va_at D cl (q, .inl (c, n, .inl f)) H) (e : ∀ j, j < n → f j = g j) : va_at D cl (q, .inl (c, n, .inl g)) H := by
  have h1 : H[q]? = some (vp_cell c (n, .inl f)) := h
  show H[q]? = some (vp_cell c (n, .inl g))
  rw [h1, vp_cell_i, vp_cell_i]
  unfold arrV
  have : (fun j : Fin n => Value.int (f j.val)) = fun j : Fin n => Value.int (g j.val) := funext fun j => by rw [e j.val j.isLt]
  rw [this]
theorem conv_l {D : va_G} {cl : List vw_C} {q n : Nat} {c : ClassId} {f g : Nat → Int64} {H : Heap} (h : va_at D cl (q, .inl (c, n, .inr (.inl f))) H) (e : ∀ j, j < n → f j = g j) : va_at D cl (q, .inl (c, n, .inr (.inl g))) H := by
  have h1 : H[q]? = some (vp_cell c (n, .inr (.inl f))) := h
  show H[q]? = some (vp_cell c (n, .inr (.inl g)))
  rw [h1, vp_cell_l, vp_cell_l]
  unfold arrV
  have : (fun j : Fin n => Value.long (f j.val)) = fun j : Fin n => Value.long (g j.val) := funext fun j => by rw [e j.val j.isLt]
  rw [this]
theorem two_i {f g : Nat → Int32} (h0 : f 0 = g 0) (h1 : f 1 = g 1) : ∀ j, j < 2 → f j = g j := fun j hj => by
  rcases two_of hj with rfl | rfl
  · exact h0
  · exact h1
theorem two_l {f g : Nat → Int64} (h0 : f 0 = g 0) (h1 : f 1 = g 1) : ∀ j, j < 2 → f j = g j := fun j hj => by
  rcases two_of hj with rfl | rfl
  · exact h0
  · exact h1
theorem iX3_init : Cond.instanceMethod yX3_init ∈ zall ∧ Cond.initialized yX3_init.cls ∈ zall ∧ (.code yX3_init cX3_init 3 none) ∈ zall := ⟨(zin__r2 (.instanceMethod yX3_init) (List.mem_of_getElem? (i := 19) rfl)), (zin__r2 (.initialized RX3) (List.mem_of_getElem? (i := 11) rfl)), (zin__r2 (.code yX3_init cX3_init 3 none) (List.mem_of_getElem? (i := 20) rfl))⟩
def zX3_init : List Cond := .code yX3_init cX3_init 3 none :: zall
set_option maxHeartbeats 8000000 in
set_option maxRecDepth 100000 in
theorem c_X3_init (l : Launch) (dC : Nat → ClassId) (dI : Nat → Nat → Nat) (ad : Nat → Nat) (q k N : Nat) (hn : N ≤ 500) (sz : Nat) : Met l yX3_init zX3_init ({ frames := 1, cells := 1, slots := N, locals := 12 }) (va_Pc [.ref q, .ref (ad k), .int (nI N)] (fun U => U.heap.size = sz ∧ va_P (dC, dI) vwCl [(q, .inr (2, [.null, .null]))] U.heap ∧ va_K (dC, dI) vwCl [] U ∧ va_D (fun _ => True) [(q, .inr (2, [.null, .null]))])) (va_Qv (fun _ : Nat × ClassId => True) (fun u t => va_P (dC, dI) vwCl [(q, .inr (2, [.ref (ad k), .ref u.1])), (u.1, .inl (u.2, N, .inr (.inl (fun _ => 0))))] t.heap ∧ va_K (dC, dI) vwCl [(u.2, .long)] t ∧ va_D (va_A [(q, .inr (2, [.null, .null]))] sz) [(q, .inr (2, [.ref (ad k), .ref u.1])), (u.1, .inl (u.2, N, .inr (.inl (fun _ => 0))))]) (va_A [(q, .inr (2, [.null, .null]))] sz)) 1 N (va_A [(q, .inr (2, [.null, .null]))] sz) := by
  refine Met.ofW (cc := cX3_init) (maxL := 3) (ret := none) (by decide) rfl ?_
  intro p e s m args below meth c s₁ B hml hv
  obtain ⟨rfl, hsz, hP, hK, hD0⟩ := hv
  have hx := B.exec
  have hb := B.bytes
  have hr := B.returns
  have hts : ∀ w ∈ zall, w.before _ s = true := fun w h => atoms_spec (ws := zX3_init) B.pre w (List.mem_cons_of_mem _ h)
  have hown : s.vm.findClass RX3 = some m.cls := findClass_of_methodNamed B.named
  have hlocks := B.notSynchronized
  have hin : meth.name = "<init>" := (name_of_methodNamed B.named B.method).1
  subst hsz
  have hD := hD0.self (sz := s.heap.size)
  generalize hAe : va_A [(q, .inr (2, [.null, .null]))] s.heap.size = A at hD ⊢
  have hA : ∀ q : Nat, s.heap.size ≤ q → A q := fun q h => by rw [← hAe]; exact Or.inr h
  have hS : va_S A s.heap s.heap [] := va_S.rf
  have hP : va_P (dC, dI) vwCl [(q, .inr (2, [.null, .null]))] s.heap := hP
  have hl := lv_entry ([.ref q, .ref (ad k), .int (nI N)]) (n := 3) (Nat.le_of_ble_eq_true rfl)
  rw [lg_entry_eq]
  generalize (lg_sl ([.ref q, .ref (ad k), .int (nI N)]) ++ List.replicate (3 - (lg_sl ([.ref q, .ref (ad k), .int (nI N)])).length) Slot.unset).toArray = ls at hl ⊢
  have hl : lv_has ls 3 [(0, .ref q), (1, .ref (ad k)), (2, .int (nI N))] := hl
  refine lv_aload_n hx hb dX3_init_0 rfl (lv_at hl 0 rfl) ?_
  refine W.objInit hx hb hown (hts _ (zin__r2 (.methodLink RX3 3 objectInit) (List.mem_of_getElem? (i := 21) rfl))) (hts _ (zin__r1 (.instanceMethod objectInit) (List.mem_of_getElem? (i := 8) rfl))) (hts _ (zin__r1 (.code objectInit ⟨#[0xb1]⟩ 1 none) (List.mem_of_getElem? (i := 9) rfl))) rfl (by rw [hml]; exact hl.1) rfl dX3_init_1 (Nat.le_of_ble_eq_true rfl) (Nat.le_of_ble_eq_true rfl) ?_
  refine W.eq (g2 := F0 m 4 ls []) rfl ?_
  refine lv_aload_n hx hb dX3_init_4 rfl (lv_at hl 0 rfl) ?_
  refine lv_aload_n hx hb dX3_init_5 rfl (lv_at hl 1 rfl) ?_
  refine va_putF (D := (dC, dI)) (ci := 2) (v := (.ref (ad k))) (ty := .object "ReckonBench$Kind") (C := RX3) (T := TX3) (N := 2) hx hb hts zin_X3 tyX3 tyX3_ok nmX3 hown hK hP hD hS 0 rfl rfl 0 (by decide) (hts _ (zin__r2 (.fieldLink RX3 9 "ReckonBench$Row" "kind" "LReckonBench$Kind;") (List.mem_of_getElem? (i := 22) rfl))) (fun _ h9 => h9) rfl hin rfl (by decide +kernel) rfl rfl (Nat.le_of_ble_eq_true rfl) dX3_init_6 (fun H locs hP hD hS => ?_)
  have hP : va_P (dC, dI) vwCl [(q, .inr (2, [(.ref (ad k)), .null]))] H := hP
  have hD : va_D A [(q, .inr (2, [(.ref (ad k)), .null]))] := hD
  refine lv_aload_n hx hb dX3_init_9 rfl (lv_at hl 0 rfl) ?_
  refine lv_iload_n hx hb dX3_init_10 rfl (lv_at hl 2 rfl) ?_
  refine va_newa (atype := .long) hx hb (hts _ (zin__r1 (.arrayClass .long) (List.mem_of_getElem? (i := 23) rfl))) rfl hK hP hD hS hA (n := (nI N)) (N' := N) (a0 := (N, .inr (.inl (fun _ => 0)))) (fun _ => rfl) (nI_nn hn) (nI_clamp (by omega)) (show N * 8 ≤ 536870912 by omega) (Nat.le_of_ble_eq_true rfl) (Nat.le_of_eq (Nat.zero_add _)) dX3_init_11 (fun q_11 c_11 H hK hP hD hS => ?_)
  have hK : va_K (dC, dI) vwCl [(c_11, .long)] s := hK
  have hP : va_P (dC, dI) vwCl [(q, .inr (2, [(.ref (ad k)), .null])), (q_11, .inl (c_11, N, .inr (.inl (fun _ => 0))))] H := hP
  have hD : va_D A [(q, .inr (2, [(.ref (ad k)), .null])), (q_11, .inl (c_11, N, .inr (.inl (fun _ => 0))))] := hD
  refine W.widen (k := 1) (n := N) (by omega) (by omega) ?_
  refine va_putF (D := (dC, dI)) (ci := 2) (v := .ref q_11) (ty := .array .long) (C := RX3) (T := TX3) (N := 2) hx hb hts zin_X3 tyX3 tyX3_ok nmX3 hown hK hP hD hS 0 rfl rfl 1 (by decide) (hts _ (zin__r2 (.fieldLink RX3 15 "ReckonBench$Row" "numbers" "[J") (List.mem_of_getElem? (i := 23) rfl))) (fun _ h9 => h9) rfl hin rfl (by decide +kernel) rfl rfl (Nat.le_of_ble_eq_true rfl) dX3_init_13 (fun H locs hP hD hS => ?_)
  have hP : va_P (dC, dI) vwCl [(q, .inr (2, [(.ref (ad k)), .ref q_11])), (q_11, .inl (c_11, N, .inr (.inl (fun _ => 0))))] H := hP
  have hD : va_D A [(q, .inr (2, [(.ref (ad k)), .ref q_11])), (q_11, .inl (c_11, N, .inr (.inl (fun _ => 0))))] := hD
  refine W.widen (k := 1) (n := N) (by omega) (by omega) ?_
  exact W.vret hx hb hr (fun t ht hW => ⟨⟨(q_11, c_11), rfl, trivial, by rw [ht]; exact hP, va_K.moved hW.alike hK, hD⟩, hS.F ht⟩) hS.2.2 dX3_init_16
theorem iX4_init : Cond.instanceMethod yX4_init ∈ zall ∧ Cond.initialized yX4_init.cls ∈ zall ∧ (.code yX4_init cX4_init 1 none) ∈ zall := ⟨(zin__r1 (.instanceMethod yX4_init) (List.mem_of_getElem? (i := 20) rfl)), (zin__r1 (.initialized RX4) (List.mem_of_getElem? (i := 14) rfl)), (zin__r1 (.code yX4_init cX4_init 1 none) (List.mem_of_getElem? (i := 21) rfl))⟩
def zX4_init : List Cond := .code yX4_init cX4_init 1 none :: zall
set_option maxHeartbeats 8000000 in
set_option maxRecDepth 100000 in
theorem c_X4_init (l : Launch) (dC : Nat → ClassId) (dI : Nat → Nat → Nat) (q : Nat) (sz : Nat) : Met l yX4_init zX4_init ({ frames := 1, cells := 2, slots := 1000, locals := 12 }) (va_Pc [.ref q] (fun U => U.heap.size = sz ∧ va_P (dC, dI) vwCl [(q, .inr (3, [.null, .null]))] U.heap ∧ va_K (dC, dI) vwCl [] U ∧ va_D (fun _ => True) [(q, .inr (3, [.null, .null]))])) (va_Qv (fun _ : Nat × Nat × ClassId => True) (fun u t => va_P (dC, dI) vwCl [(q, .inr (3, [.ref u.1, .ref u.2.1])), (u.1, .inl (u.2.2, 500, .inr (.inl (fun _ => 0)))), (u.2.1, .inl (u.2.2, 500, .inr (.inl (fun _ => 0))))] t.heap ∧ va_K (dC, dI) vwCl [(u.2.2, .long)] t ∧ va_D (va_A [(q, .inr (3, [.null, .null]))] sz) [(q, .inr (3, [.ref u.1, .ref u.2.1])), (u.1, .inl (u.2.2, 500, .inr (.inl (fun _ => 0)))), (u.2.1, .inl (u.2.2, 500, .inr (.inl (fun _ => 0))))]) (va_A [(q, .inr (3, [.null, .null]))] sz)) 2 1000 (va_A [(q, .inr (3, [.null, .null]))] sz) := by
  refine Met.ofW (cc := cX4_init) (maxL := 1) (ret := none) (by decide) rfl ?_
  intro p e s m args below meth c s₁ B hml hv
  obtain ⟨rfl, hsz, hP, hK, hD0⟩ := hv
  have hx := B.exec
  have hb := B.bytes
  have hr := B.returns
  have hts : ∀ w ∈ zall, w.before _ s = true := fun w h => atoms_spec (ws := zX4_init) B.pre w (List.mem_cons_of_mem _ h)
  have hown : s.vm.findClass RX4 = some m.cls := findClass_of_methodNamed B.named
  have hlocks := B.notSynchronized
  have hin : meth.name = "<init>" := (name_of_methodNamed B.named B.method).1
  subst hsz
  have hD := hD0.self (sz := s.heap.size)
  generalize hAe : va_A [(q, .inr (3, [.null, .null]))] s.heap.size = A at hD ⊢
  have hA : ∀ q : Nat, s.heap.size ≤ q → A q := fun q h => by rw [← hAe]; exact Or.inr h
  have hS : va_S A s.heap s.heap [] := va_S.rf
  have hP : va_P (dC, dI) vwCl [(q, .inr (3, [.null, .null]))] s.heap := hP
  have hl := lv_entry ([.ref q]) (n := 1) (Nat.le_of_ble_eq_true rfl)
  rw [lg_entry_eq]
  generalize (lg_sl ([.ref q]) ++ List.replicate (1 - (lg_sl ([.ref q])).length) Slot.unset).toArray = ls at hl ⊢
  have hl : lv_has ls 1 [(0, .ref q)] := hl
  refine lv_aload_n hx hb dX4_init_0 rfl (lv_at hl 0 rfl) ?_
  refine W.objInit hx hb hown (hts _ (zin__r1 (.methodLink RX4 3 objectInit) (List.mem_of_getElem? (i := 22) rfl))) (hts _ (zin__r1 (.instanceMethod objectInit) (List.mem_of_getElem? (i := 8) rfl))) (hts _ (zin__r1 (.code objectInit ⟨#[0xb1]⟩ 1 none) (List.mem_of_getElem? (i := 9) rfl))) rfl (by rw [hml]; exact hl.1) rfl dX4_init_1 (Nat.le_of_ble_eq_true rfl) (Nat.le_of_ble_eq_true rfl) ?_
  refine W.eq (g2 := F0 m 4 ls []) rfl ?_
  refine lv_aload_n hx hb dX4_init_4 rfl (lv_at hl 0 rfl) ?_
  refine lv_sipush (v := 500) hx hb dX4_init_5 (by decide) ?_
  refine va_newa (atype := .long) hx hb (hts _ (zin__r1 (.arrayClass .long) (List.mem_of_getElem? (i := 23) rfl))) rfl hK hP hD hS hA (n := (500 : Int32)) (N' := 500) (a0 := (500, .inr (.inl (fun _ => 0)))) (fun _ => rfl) (by decide) (by decide) (Nat.le_of_ble_eq_true rfl) (Nat.le_of_ble_eq_true rfl) (Nat.le_of_ble_eq_true rfl) dX4_init_8 (fun q_8 c_8 H hK hP hD hS => ?_)
  have hK : va_K (dC, dI) vwCl [(c_8, .long)] s := hK
  have hP : va_P (dC, dI) vwCl [(q, .inr (3, [.null, .null])), (q_8, .inl (c_8, 500, .inr (.inl (fun _ => 0))))] H := hP
  have hD : va_D A [(q, .inr (3, [.null, .null])), (q_8, .inl (c_8, 500, .inr (.inl (fun _ => 0))))] := hD
  refine W.widen (k := 1) (n := 500) (by omega) (by omega) ?_
  refine va_putF (D := (dC, dI)) (ci := 3) (v := .ref q_8) (ty := .array .long) (C := RX4) (T := TX4) (N := 2) hx hb hts zin_X4 tyX4 tyX4_ok nmX4 hown hK hP hD hS 0 rfl rfl 0 (by decide) (hts _ (zin__r2 (.fieldLink RX4 9 "ReckonBench$Sorter" "before" "[J") (List.mem_of_getElem? (i := 0) rfl))) (fun _ h9 => h9) rfl hin rfl (by decide +kernel) rfl rfl (Nat.le_of_ble_eq_true rfl) dX4_init_10 (fun H locs hP hD hS => ?_)
  have hP : va_P (dC, dI) vwCl [(q, .inr (3, [.ref q_8, .null])), (q_8, .inl (c_8, 500, .inr (.inl (fun _ => 0))))] H := hP
  have hD : va_D A [(q, .inr (3, [.ref q_8, .null])), (q_8, .inl (c_8, 500, .inr (.inl (fun _ => 0))))] := hD
  refine lv_aload_n hx hb dX4_init_13 rfl (lv_at hl 0 rfl) ?_
  refine lv_sipush (v := 500) hx hb dX4_init_14 (by decide) ?_
  refine va_newa (atype := .long) hx hb (hts _ (zin__r1 (.arrayClass .long) (List.mem_of_getElem? (i := 23) rfl))) rfl hK hP hD hS hA (n := (500 : Int32)) (N' := 500) (a0 := (500, .inr (.inl (fun _ => 0)))) (fun _ => rfl) (by decide) (by decide) (Nat.le_of_ble_eq_true rfl) (Nat.le_of_ble_eq_true rfl) (Nat.le_of_ble_eq_true rfl) dX4_init_17 (fun q_17 c_17 H hK hP hD hS => ?_)
  have e_c_17 : c_8 = c_17 := ty_eqJ hK 0 1 rfl rfl
  subst e_c_17
  have hK : va_K (dC, dI) vwCl [(c_8, .long)] s := hK.sub [0] rfl
  have hP : va_P (dC, dI) vwCl [(q, .inr (3, [.ref q_8, .null])), (q_8, .inl (c_8, 500, .inr (.inl (fun _ => 0)))), (q_17, .inl (c_8, 500, .inr (.inl (fun _ => 0))))] H := hP
  have hD : va_D A [(q, .inr (3, [.ref q_8, .null])), (q_8, .inl (c_8, 500, .inr (.inl (fun _ => 0)))), (q_17, .inl (c_8, 500, .inr (.inl (fun _ => 0))))] := hD
  refine W.widen (k := 2) (n := 1000) (by omega) (by omega) ?_
  refine va_putF (D := (dC, dI)) (ci := 3) (v := .ref q_17) (ty := .array .long) (C := RX4) (T := TX4) (N := 2) hx hb hts zin_X4 tyX4 tyX4_ok nmX4 hown hK hP hD hS 0 rfl rfl 1 (by decide) (hts _ (zin__r2 (.fieldLink RX4 15 "ReckonBench$Sorter" "merged" "[J") (List.mem_of_getElem? (i := 1) rfl))) (fun _ h9 => h9) rfl hin rfl (by decide +kernel) rfl rfl (Nat.le_of_ble_eq_true rfl) dX4_init_19 (fun H locs hP hD hS => ?_)
  have hP : va_P (dC, dI) vwCl [(q, .inr (3, [.ref q_8, .ref q_17])), (q_8, .inl (c_8, 500, .inr (.inl (fun _ => 0)))), (q_17, .inl (c_8, 500, .inr (.inl (fun _ => 0))))] H := hP
  have hD : va_D A [(q, .inr (3, [.ref q_8, .ref q_17])), (q_8, .inl (c_8, 500, .inr (.inl (fun _ => 0)))), (q_17, .inl (c_8, 500, .inr (.inl (fun _ => 0))))] := hD
  exact W.vret hx hb hr (fun t ht hW => ⟨⟨(q_8, q_17, c_8), rfl, trivial, by rw [ht]; exact hP, va_K.moved hW.alike hK, hD⟩, hS.F ht⟩) hS.2.2 dX4_init_22
def cS0 : CSt := (0, fun _ => 0, fun _ => 1, fun _ _ => 0, fun _ => 0, fun _ => 0, fun _ => 0, fun _ => 0, 0, 0)
theorem cW0_eq {ad : Nat → Nat} {o rw so ba ma : Nat} {cR cJ : ClassId} : cWs ad o rw so ba ma cR cJ cS0 = [(o, .inr (4, [.ref rw, .ref so, .int (0 : Int32), .int (0 : Int32), .int (0 : Int32)])), (rw, .inl (cR, 64, .inr (.inr (.inr (.inr (fun _ => none)))))), (so, .inr (3, [.ref ba, .ref ma])), (ba, .inl (cJ, 500, .inr (.inl (fun _ => 0)))), (ma, .inl (cJ, 500, .inr (.inl (fun _ => 0))))] := by
  have h : cRows cS0 = fun _ => none := funext fun j => if_neg (Nat.not_lt_zero j)
  unfold cWs cFix
  rw [h]
  rfl
theorem cW0_P {D : va_G} {ad : Nat → Nat} {o rw so ba ma : Nat} {cR cJ : ClassId} {H : Heap} (h : va_P D vwCl [(o, .inr (4, [.ref rw, .ref so, .int (0 : Int32), .int (0 : Int32), .int (0 : Int32)])), (rw, .inl (cR, 64, .inr (.inr (.inr (.inr (fun _ => none)))))), (so, .inr (3, [.ref ba, .ref ma])), (ba, .inl (cJ, 500, .inr (.inl (fun _ => 0)))), (ma, .inl (cJ, 500, .inr (.inl (fun _ => 0))))] H) : va_P D vwCl (cWs ad o rw so ba ma cR cJ cS0) H := by
  rw [cW0_eq]
  exact h
theorem cW0_D {ad : Nat → Nat} {o rw so ba ma : Nat} {cR cJ : ClassId} {A : Nat → Prop} (h : va_D A [(o, .inr (4, [.ref rw, .ref so, .int (0 : Int32), .int (0 : Int32), .int (0 : Int32)])), (rw, .inl (cR, 64, .inr (.inr (.inr (.inr (fun _ => none)))))), (so, .inr (3, [.ref ba, .ref ma])), (ba, .inl (cJ, 500, .inr (.inl (fun _ => 0)))), (ma, .inl (cJ, 500, .inr (.inl (fun _ => 0))))]) : va_D A (cWs ad o rw so ba ma cR cJ cS0) := by
  rw [cW0_eq]
  exact h
theorem iX6_init : Cond.instanceMethod yX6_init ∈ zall ∧ Cond.initialized yX6_init.cls ∈ zall ∧ (.code yX6_init cX6_init 1 none) ∈ zall := ⟨(zin__r1 (.instanceMethod yX6_init) (List.mem_of_getElem? (i := 5) rfl)), (zin__r1 (.initialized RX6) (List.mem_of_getElem? (i := 2) rfl)), (zin__r1 (.code yX6_init cX6_init 1 none) (List.mem_of_getElem? (i := 6) rfl))⟩
def zX6_init : List Cond := .code yX6_init cX6_init 1 none :: zall
set_option maxHeartbeats 8000000 in
set_option maxRecDepth 100000 in
theorem c_X6_init (l : Launch) (dC : Nat → ClassId) (dI : Nat → Nat → Nat) (ad : Nat → Nat) (o : Nat) (sz : Nat) : Met l yX6_init zX6_init ({ frames := 2, cells := 4, slots := 1066, locals := 32 }) (va_Pc [.ref o] (fun U => U.heap.size = sz ∧ va_P (dC, dI) vwCl [(o, .inr (4, [.null, .null, .int 0, .int 0, .int 0]))] U.heap ∧ va_K (dC, dI) vwCl [] U ∧ va_D (fun _ => True) [(o, .inr (4, [.null, .null, .int 0, .int 0, .int 0]))] ∧ va_AO "ReckonBench$Row" U)) (va_Qv (fun _ : Nat × Nat × Nat × Nat × ClassId × ClassId => True) (fun u t => va_P (dC, dI) vwCl (cWs ad o u.1 u.2.1 u.2.2.1 u.2.2.2.1 u.2.2.2.2.1 u.2.2.2.2.2 cS0) t.heap ∧ va_K (dC, dI) vwCl [(u.2.2.2.2.1, .object "ReckonBench$Row"), (u.2.2.2.2.2, .long)] t ∧ va_D (va_A [(o, .inr (4, [.null, .null, .int 0, .int 0, .int 0]))] sz) (cWs ad o u.1 u.2.1 u.2.2.1 u.2.2.2.1 u.2.2.2.2.1 u.2.2.2.2.2 cS0)) (va_A [(o, .inr (4, [.null, .null, .int 0, .int 0, .int 0]))] sz)) 4 1066 (va_A [(o, .inr (4, [.null, .null, .int 0, .int 0, .int 0]))] sz) := by
  refine Met.ofW (cc := cX6_init) (maxL := 1) (ret := none) (by decide) rfl ?_
  intro p e s m args below meth c s₁ B hml hv
  obtain ⟨rfl, hsz, hP, hK, hD0, hover⟩ := hv
  have hx := B.exec
  have hb := B.bytes
  have hr := B.returns
  have hts : ∀ w ∈ zall, w.before _ s = true := fun w h => atoms_spec (ws := zX6_init) B.pre w (List.mem_cons_of_mem _ h)
  have hown : s.vm.findClass RX6 = some m.cls := findClass_of_methodNamed B.named
  have hlocks := B.notSynchronized
  have hin : meth.name = "<init>" := (name_of_methodNamed B.named B.method).1
  subst hsz
  have hD := hD0.self (sz := s.heap.size)
  generalize hAe : va_A [(o, .inr (4, [.null, .null, .int 0, .int 0, .int 0]))] s.heap.size = A at hD ⊢
  have hA : ∀ q : Nat, s.heap.size ≤ q → A q := fun q h => by rw [← hAe]; exact Or.inr h
  have hS : va_S A s.heap s.heap [] := va_S.rf
  have hP : va_P (dC, dI) vwCl [(o, .inr (4, [.null, .null, .int 0, .int 0, .int 0]))] s.heap := hP
  have hl := lv_entry ([.ref o]) (n := 1) (Nat.le_of_ble_eq_true rfl)
  rw [lg_entry_eq]
  generalize (lg_sl ([.ref o]) ++ List.replicate (1 - (lg_sl ([.ref o])).length) Slot.unset).toArray = ls at hl ⊢
  have hl : lv_has ls 1 [(0, .ref o)] := hl
  refine lv_aload_n hx hb dX6_init_0 rfl (lv_at hl 0 rfl) ?_
  refine W.objInit hx hb hown (hts _ (zin__r1 (.methodLink RX6 3 objectInit) (List.mem_of_getElem? (i := 7) rfl))) (hts _ (zin__r1 (.instanceMethod objectInit) (List.mem_of_getElem? (i := 8) rfl))) (hts _ (zin__r1 (.code objectInit ⟨#[0xb1]⟩ 1 none) (List.mem_of_getElem? (i := 9) rfl))) rfl (by rw [hml]; exact hl.1) rfl dX6_init_1 (Nat.le_of_ble_eq_true rfl) (Nat.le_of_ble_eq_true rfl) ?_
  refine W.eq (g2 := F0 m 4 ls []) rfl ?_
  refine lv_aload_n hx hb dX6_init_4 rfl (lv_at hl 0 rfl) ?_
  refine lv_bipush (v := 64) hx hb dX6_init_5 (by decide) ?_
  refine va_newq (C := "ReckonBench$Row") hx hb hown (hts _ (zin__r1 (.classLink RX6 9 RX3) (List.mem_of_getElem? (i := 10) rfl))) hover hK hP hD hS hA (n := (64 : Int32)) (N' := 64) (by decide) (by decide) (Nat.le_of_ble_eq_true rfl) (Nat.le_of_ble_eq_true rfl) (Nat.le_of_ble_eq_true rfl) dX6_init_7 (fun q_7 c_7 H hK hP hD hS => ?_)
  have hK : va_K (dC, dI) vwCl [(c_7, .object "ReckonBench$Row")] s := hK
  have hP : va_P (dC, dI) vwCl [(o, .inr (4, [.null, .null, .int 0, .int 0, .int 0])), (q_7, .inl (c_7, 64, .inr (.inr (.inr (.inr (fun _ => none))))))] H := hP
  have hD : va_D A [(o, .inr (4, [.null, .null, .int 0, .int 0, .int 0])), (q_7, .inl (c_7, 64, .inr (.inr (.inr (.inr (fun _ => none))))))] := hD
  refine W.widen (k := 1) (n := 64) (by omega) (by omega) ?_
  refine va_putF (D := (dC, dI)) (ci := 4) (v := .ref q_7) (ty := .array (.object "ReckonBench$Row")) (C := RX6) (T := TX6) (N := 5) hx hb hts zin_X6 tyX6 tyX6_ok nmX6 hown hK hP hD hS 0 rfl rfl 0 (by decide) (hts _ (zin__r1 (.fieldLink RX6 11 "ReckonBench" "rows" "[LReckonBench$Row;") (List.mem_of_getElem? (i := 11) rfl))) (fun _ h9 => h9) rfl hin rfl (by decide +kernel) rfl rfl (Nat.le_of_ble_eq_true rfl) dX6_init_10 (fun H locs hP hD hS => ?_)
  have hP : va_P (dC, dI) vwCl [(o, .inr (4, [.ref q_7, .null, .int 0, .int 0, .int 0])), (q_7, .inl (c_7, 64, .inr (.inr (.inr (.inr (fun _ => none))))))] H := hP
  have hD : va_D A [(o, .inr (4, [.ref q_7, .null, .int 0, .int 0, .int 0])), (q_7, .inl (c_7, 64, .inr (.inr (.inr (.inr (fun _ => none))))))] := hD
  refine lv_aload_n hx hb dX6_init_13 rfl (lv_at hl 0 rfl) ?_
  refine va_new (ci := 3) (fs := [.null, .null]) (C := RX4) (T := TX4) (N := 2) hx hb hts zin_X4 tyX4 tyX4_ok hown (hts _ (zin__r1 (.classLink RX6 15 RX4) (List.mem_of_getElem? (i := 12) rfl))) (hts _ (zin__r1 (.instantiable RX4 2) (List.mem_of_getElem? (i := 13) rfl))) (hts _ (zin__r1 (.initialized RX4) (List.mem_of_getElem? (i := 14) rfl))) hK hP hD hS hA rfl (fun j hj => by rcases (show j = 0 ∨ j = 1 by omega) with rfl | rfl <;> rfl) (Nat.le_of_ble_eq_true rfl) (Nat.le_of_ble_eq_true rfl) dX6_init_14 (fun q_14 H hP hD hS => ?_)
  have hP : va_P (dC, dI) vwCl [(o, .inr (4, [.ref q_7, .null, .int 0, .int 0, .int 0])), (q_7, .inl (c_7, 64, .inr (.inr (.inr (.inr (fun _ => none)))))), (q_14, .inr (3, [.null, .null]))] H := hP
  have hD : va_D A [(o, .inr (4, [.ref q_7, .null, .int 0, .int 0, .int 0])), (q_7, .inl (c_7, 64, .inr (.inr (.inr (.inr (fun _ => none)))))), (q_14, .inr (3, [.null, .null]))] := hD
  refine W.widen (k := 2) (n := 66) (by omega) (by omega) ?_
  refine lv_dup hx hb dX6_init_17 rfl ?_
  have hPc := hP.sub (ws' := [(q_14, .inr (3, [.null, .null]))]) [2] rfl
  have hDc := hD.sub (ws' := [(q_14, .inr (3, [.null, .null]))]) [2] (by decide) rfl
  have hKc := hK.sub (tys' := []) [] rfl
  have hFc := va_free (wc := [(q_14, .inr (3, [.null, .null]))]) hD hS hA [2] rfl
  refine va_callv (va_runI (As := []) (rest := [.ref q_14, .ref o]) ⟨hx, hb, hml, hown, hts⟩ (c_X4_init l dC dI q_14 H.size) (cwI 0 hts (gI iX4_init.2.2) rfl rfl rfl (hts _ iX4_init.2.1) (hts _ (zin__r1 (.methodLink RX6 17 yX4_init) (List.mem_of_getElem? (i := 19) rfl))) (hts _ iX4_init.1) rfl (by decide +kernel) ⟨Nat.le_of_ble_eq_true rfl, Nat.le_of_ble_eq_true rfl⟩) ⟨fun a U g mk q9 => by obtain ⟨q0, q1, qP, qK, qD⟩ := q9; exact ⟨q0, q1, qP, va_K.moved (u := U) (U := U.calling g mk a) (Vm.Alike.refl U.vm) qK, qD⟩, fun U hU hW => ⟨rfl, by rw [hU], by rw [hU]; exact hPc, va_K.moved hW.alike hKc, hDc.weaken (fun _ _ _ _ => trivial)⟩⟩ rfl rfl hl.1 rfl (lv_room (Nat.le_of_ble_eq_true rfl)) dX6_init_18 ⟨Nat.le_of_ble_eq_true rfl, Nat.le_of_ble_eq_true rfl⟩) hS (fun q _ h => hFc q h) hFc (fun u t H1 locs ht hvm hw hB hz1 hk1 hS => ?_)
  obtain ⟨ba, ma, cJ⟩ := u
  obtain ⟨hP1, hK1, hD1⟩ := hB
  rw [ht] at hP1
  have hK1 := va_K.moved hvm.symm hK1
  obtain ⟨hP, hD⟩ := va_join (wr := [(o, .inr (4, [.ref q_7, .null, .int 0, .int 0, .int 0])), (q_7, .inl (c_7, 64, .inr (.inr (.inr (.inr (fun _ => none))))))]) (w1 := [(q_14, .inr (3, [.ref ba, .ref ma])), (ba, .inl (cJ, 500, .inr (.inl (fun _ => 0)))), (ma, .inl (cJ, 500, .inr (.inl (fun _ => 0))))]) hP hD [2] [0, 1] rfl rfl (by decide) (by decide) hk1 hFc hP1 hD1
  have hK := (hK.sub (tys' := [(c_7, .object "ReckonBench$Row")]) [0] rfl).app hK1
  generalize H1 = H at hP hS ⊢
  have hP : va_P (dC, dI) vwCl [(o, .inr (4, [.ref q_7, .null, .int 0, .int 0, .int 0])), (q_7, .inl (c_7, 64, .inr (.inr (.inr (.inr (fun _ => none)))))), (q_14, .inr (3, [.ref ba, .ref ma])), (ba, .inl (cJ, 500, .inr (.inl (fun _ => 0)))), (ma, .inl (cJ, 500, .inr (.inl (fun _ => 0))))] H := hP
  have hD : va_D A [(o, .inr (4, [.ref q_7, .null, .int 0, .int 0, .int 0])), (q_7, .inl (c_7, 64, .inr (.inr (.inr (.inr (fun _ => none)))))), (q_14, .inr (3, [.ref ba, .ref ma])), (ba, .inl (cJ, 500, .inr (.inl (fun _ => 0)))), (ma, .inl (cJ, 500, .inr (.inl (fun _ => 0))))] := hD
  have hK : va_K (dC, dI) vwCl [(c_7, .object "ReckonBench$Row"), (cJ, .long)] s := hK
  refine W.widen (k := 4) (n := 1066) (by omega) (by omega) ?_
  refine va_putF (D := (dC, dI)) (ci := 4) (v := .ref q_14) (ty := .object "ReckonBench$Sorter") (C := RX6) (T := TX6) (N := 5) hx hb hts zin_X6 tyX6 tyX6_ok nmX6 hown hK hP hD hS 0 rfl rfl 1 (by decide) (hts _ (zin__r1 (.fieldLink RX6 18 "ReckonBench" "sorter" "LReckonBench$Sorter;") (List.mem_of_getElem? (i := 15) rfl))) (fun _ h9 => h9) rfl hin rfl (by decide +kernel) rfl rfl (Nat.le_of_ble_eq_true rfl) dX6_init_21 (fun H locs hP hD hS => ?_)
  have hP : va_P (dC, dI) vwCl [(o, .inr (4, [.ref q_7, .ref q_14, .int 0, .int 0, .int 0])), (q_7, .inl (c_7, 64, .inr (.inr (.inr (.inr (fun _ => none)))))), (q_14, .inr (3, [.ref ba, .ref ma])), (ba, .inl (cJ, 500, .inr (.inl (fun _ => 0)))), (ma, .inl (cJ, 500, .inr (.inl (fun _ => 0))))] H := hP
  have hD : va_D A [(o, .inr (4, [.ref q_7, .ref q_14, .int 0, .int 0, .int 0])), (q_7, .inl (c_7, 64, .inr (.inr (.inr (.inr (fun _ => none)))))), (q_14, .inr (3, [.ref ba, .ref ma])), (ba, .inl (cJ, 500, .inr (.inl (fun _ => 0)))), (ma, .inl (cJ, 500, .inr (.inl (fun _ => 0))))] := hD
  refine lv_aload_n hx hb dX6_init_24 rfl (lv_at hl 0 rfl) ?_
  refine lv_iconst (v := 0) hx hb dX6_init_25 (by decide) ?_
  refine va_put (D := (dC, dI)) (ci := 4) (v := .int (0 : Int32)) (ty := .int) (C := RX6) (T := TX6) (N := 5) hx hb hts zin_X6 tyX6 tyX6_ok nmX6 hown hK hP hD hS 0 rfl rfl 2 (by decide) (hts _ (zin__r1 (.fieldLink RX6 22 "ReckonBench" "rowCount" "I") (List.mem_of_getElem? (i := 16) rfl))) (fun _ h9 => h9) rfl (by decide +kernel) rfl rfl (Nat.le_of_ble_eq_true rfl) dX6_init_26 (fun H locs hP hD hS => ?_)
  have hP : va_P (dC, dI) vwCl [(o, .inr (4, [.ref q_7, .ref q_14, .int (0 : Int32), .int 0, .int 0])), (q_7, .inl (c_7, 64, .inr (.inr (.inr (.inr (fun _ => none)))))), (q_14, .inr (3, [.ref ba, .ref ma])), (ba, .inl (cJ, 500, .inr (.inl (fun _ => 0)))), (ma, .inl (cJ, 500, .inr (.inl (fun _ => 0))))] H := hP
  have hD : va_D A [(o, .inr (4, [.ref q_7, .ref q_14, .int (0 : Int32), .int 0, .int 0])), (q_7, .inl (c_7, 64, .inr (.inr (.inr (.inr (fun _ => none)))))), (q_14, .inr (3, [.ref ba, .ref ma])), (ba, .inl (cJ, 500, .inr (.inl (fun _ => 0)))), (ma, .inl (cJ, 500, .inr (.inl (fun _ => 0))))] := hD
  refine lv_aload_n hx hb dX6_init_29 rfl (lv_at hl 0 rfl) ?_
  refine lv_iconst (v := 0) hx hb dX6_init_30 (by decide) ?_
  refine va_put (D := (dC, dI)) (ci := 4) (v := .int (0 : Int32)) (ty := .int) (C := RX6) (T := TX6) (N := 5) hx hb hts zin_X6 tyX6 tyX6_ok nmX6 hown hK hP hD hS 0 rfl rfl 3 (by decide) (hts _ (zin__r1 (.fieldLink RX6 26 "ReckonBench" "numberCount" "I") (List.mem_of_getElem? (i := 17) rfl))) (fun _ h9 => h9) rfl (by decide +kernel) rfl rfl (Nat.le_of_ble_eq_true rfl) dX6_init_31 (fun H locs hP hD hS => ?_)
  have hP : va_P (dC, dI) vwCl [(o, .inr (4, [.ref q_7, .ref q_14, .int (0 : Int32), .int (0 : Int32), .int 0])), (q_7, .inl (c_7, 64, .inr (.inr (.inr (.inr (fun _ => none)))))), (q_14, .inr (3, [.ref ba, .ref ma])), (ba, .inl (cJ, 500, .inr (.inl (fun _ => 0)))), (ma, .inl (cJ, 500, .inr (.inl (fun _ => 0))))] H := hP
  have hD : va_D A [(o, .inr (4, [.ref q_7, .ref q_14, .int (0 : Int32), .int (0 : Int32), .int 0])), (q_7, .inl (c_7, 64, .inr (.inr (.inr (.inr (fun _ => none)))))), (q_14, .inr (3, [.ref ba, .ref ma])), (ba, .inl (cJ, 500, .inr (.inl (fun _ => 0)))), (ma, .inl (cJ, 500, .inr (.inl (fun _ => 0))))] := hD
  refine lv_aload_n hx hb dX6_init_34 rfl (lv_at hl 0 rfl) ?_
  refine lv_iconst (v := 0) hx hb dX6_init_35 (by decide) ?_
  refine va_put (D := (dC, dI)) (ci := 4) (v := .int (0 : Int32)) (ty := .int) (C := RX6) (T := TX6) (N := 5) hx hb hts zin_X6 tyX6 tyX6_ok nmX6 hown hK hP hD hS 0 rfl rfl 4 (by decide) (hts _ (zin__r1 (.fieldLink RX6 29 "ReckonBench" "reason" "I") (List.mem_of_getElem? (i := 18) rfl))) (fun _ h9 => h9) rfl (by decide +kernel) rfl rfl (Nat.le_of_ble_eq_true rfl) dX6_init_36 (fun H locs hP hD hS => ?_)
  have hP : va_P (dC, dI) vwCl [(o, .inr (4, [.ref q_7, .ref q_14, .int (0 : Int32), .int (0 : Int32), .int (0 : Int32)])), (q_7, .inl (c_7, 64, .inr (.inr (.inr (.inr (fun _ => none)))))), (q_14, .inr (3, [.ref ba, .ref ma])), (ba, .inl (cJ, 500, .inr (.inl (fun _ => 0)))), (ma, .inl (cJ, 500, .inr (.inl (fun _ => 0))))] H := hP
  have hD : va_D A [(o, .inr (4, [.ref q_7, .ref q_14, .int (0 : Int32), .int (0 : Int32), .int (0 : Int32)])), (q_7, .inl (c_7, 64, .inr (.inr (.inr (.inr (fun _ => none)))))), (q_14, .inr (3, [.ref ba, .ref ma])), (ba, .inl (cJ, 500, .inr (.inl (fun _ => 0)))), (ma, .inl (cJ, 500, .inr (.inl (fun _ => 0))))] := hD
  have hP : va_P (dC, dI) vwCl (cWs ad o q_7 q_14 ba ma c_7 cJ cS0) H := cW0_P hP
  have hD : va_D A (cWs ad o q_7 q_14 ba ma c_7 cJ cS0) := cW0_D hD
  exact W.vret hx hb hr (fun t ht hW => ⟨⟨(q_7, q_14, ba, ma, c_7, cJ), rfl, trivial, by rw [ht]; exact hP, va_K.moved hW.alike hK, hD⟩, hS.F ht⟩) hS.2.2 dX6_init_39

