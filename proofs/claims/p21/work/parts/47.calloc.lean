def f_X0_everything (h_k : Nat) (h_lo : Int64) (h_hi : Int64) : Int64 × Int64 := ((f_X1_signed h_k (1 : Int32) (kinf h_k)), (kinf h_k))
def zX0_everything : List Cond := .code yX0_everything cX0_everything 1 (some (.object "ReckonBench$Interval")) :: zall
theorem iX0_everything : MWv RX0 yX0_everything (.code yX0_everything cX0_everything 1 (some (.object "ReckonBench$Interval"))) := ⟨(zin__r14 (.instanceMethod yX0_everything) (List.mem_of_getElem? (i := 2) rfl)), (zin__r14 (.selects RX0 yX0_everything yX0_everything) (List.mem_of_getElem? (i := 3) rfl)), (zin__r13 (.initialized RX0) (List.mem_of_getElem? (i := 8) rfl)), (zin__r14 (.code yX0_everything cX0_everything 1 (some (.object "ReckonBench$Interval"))) (List.mem_of_getElem? (i := 4) rfl))⟩
set_option maxHeartbeats 4000000 in
set_option maxRecDepth 100000 in
theorem c_X0_everything (l : Launch) (dC : Nat → ClassId) (dI : Nat → Nat → Nat) (ad : Nat → Nat) (h h_k : Nat) (h_h_k : h_k < 2) (h_lo h_hi : Int64) (sz : Nat) : Met l yX0_everything zX0_everything ({ frames := 2, cells := 1, slots := 3, locals := 37 }) (va_Pc [.ref h] (fun U => aB dC dI ad sz U ∧ iU h ad h_k h_lo h_hi U)) (va_Qr (fun u => u = f_X0_everything h_k h_lo h_hi) (aE dC dI ad h_k (va_A [] sz)) (va_A [] sz)) 1 3 (va_A [] sz) := by
  refine Met.ofW (cc := cX0_everything) (maxL := 1) (ret := (some (.object "ReckonBench$Interval"))) (by decide) rfl ?_
  intro p e s m args below meth c s₁ B hml hv
  obtain ⟨rfl, ⟨hsz, hK, hk⟩, hr_h⟩ := hv
  have hx := B.exec
  have hb := B.bytes
  have hr := B.returns
  have hts : ∀ w ∈ zall, w.before _ s = true := fun w h => atoms_spec (ws := zX0_everything) B.pre w (List.mem_cons_of_mem _ h)
  have hown : s.vm.findClass RX0 = some m.cls := findClass_of_methodNamed B.named
  have hlocks := B.notSynchronized
  subst hsz
  have hP : va_P (dC, dI) vwCl [] s.heap := fun k q h => by simp at h
  have hD : va_D (va_A [] s.heap.size) [] := ⟨fun i j p q h => by simp at h, fun k q h => by simp at h⟩
  have hkA := kA_new hk
  have hiA_h := iH_new0 hr_h
  generalize hAe : va_A [] s.heap.size = A at hD hkA hiA_h ⊢
  have hA : ∀ q : Nat, s.heap.size ≤ q → A q := fun q h => by rw [← hAe]; exact Or.inr h
  have hS : va_S A s.heap s.heap [] := va_S.rf
  have hk := kA_at hkA hS
  have hr_h := iA_at hiA_h hS
  have hl := lv_entry ([.ref h]) (n := 1) (Nat.le_of_ble_eq_true rfl)
  rw [lg_entry_eq]
  generalize (lg_sl ([.ref h]) ++ List.replicate (1 - (lg_sl ([.ref h])).length) Slot.unset).toArray = ls at hl ⊢
  have hl : lv_has ls 1 [(0, .ref h)] := hl
  have hf : f_X0_everything h_k h_lo h_hi = ((f_X1_signed h_k (1 : Int32) (kinf h_k)), (kinf h_k)) := rfl
  refine va_new (ci := 0) (fs := [.null, .long 0, .long 0]) (C := RX0) (T := TX0) (N := 3) hx hb hts zin_X0 tyX0 tyX0_ok hown (hts _ (zin__r14 (.classLink RX0 1 RX0) (List.mem_of_getElem? (i := 5) rfl))) (hts _ (zin__r13 (.instantiable RX0 3) (List.mem_of_getElem? (i := 7) rfl))) (hts _ (zin__r13 (.initialized RX0) (List.mem_of_getElem? (i := 8) rfl))) hK hP hD hS hA rfl (fun j hj => by rcases (show j = 0 ∨ j = 1 ∨ j = 2 by omega) with rfl | rfl | rfl <;> rfl) (Nat.le_of_ble_eq_true rfl) (Nat.le_of_ble_eq_true rfl) dX0_everything_0 (fun q_0 H hP hD hS => ?_)
  have hP : va_P (dC, dI) vwCl [(q_0, .inr (0, [.null, .long 0, .long 0]))] H := hP
  have hD : va_D A [(q_0, .inr (0, [.null, .long 0, .long 0]))] := hD
  have hk := kA_at hkA hS
  have hr_h := iA_at hiA_h hS
  refine lv_dup hx hb dX0_everything_3 rfl ?_
  refine lv_aload_n hx hb dX0_everything_4 rfl (lv_at hl 0 rfl) ?_
  refine gf_H hx hb hr_h.2.1 hown (hts _ (zin__r13 (.fieldLink RX0 9 "ReckonBench$Interval" "kind" "LReckonBench$Kind;") (List.mem_of_getElem? (i := 13) rfl))) (fun _ h9 => h9) dX0_everything_5 ?_
  refine lv_aload_n hx hb dX0_everything_8 rfl (lv_at hl 0 rfl) ?_
  refine gf_H hx hb hr_h.2.1 hown (hts _ (zin__r13 (.fieldLink RX0 9 "ReckonBench$Interval" "kind" "LReckonBench$Kind;") (List.mem_of_getElem? (i := 13) rfl))) (fun _ h9 => h9) dX0_everything_9 ?_
  refine lv_iconst (v := 1) hx hb dX0_everything_12 (by decide) ?_
  refine lv_aload_n hx hb dX0_everything_13 rfl (lv_at hl 0 rfl) ?_
  refine gf_H hx hb hr_h.2.1 hown (hts _ (zin__r13 (.fieldLink RX0 9 "ReckonBench$Interval" "kind" "LReckonBench$Kind;") (List.mem_of_getElem? (i := 13) rfl))) (fun _ h9 => h9) dX0_everything_14 ?_
  refine gf_H hx hb (kE9_infinite hk h_h_k) hown (hts _ (zin__r14 (.fieldLink RX0 26 "ReckonBench$Kind" "infinite" "J") (List.mem_of_getElem? (i := 6) rfl))) (fun _ h9 => h9) dX0_everything_17 ?_
  refine vp_callSl (va_Run.run (va_runV (As := [.int (1 : Int32), .long (kinf h_k)]) (rest := [.ref (ad h_k), .ref q_0, .ref q_0]) ⟨hx, hb, hml, hown, hts⟩ (c_X1_signed l ad h_k h_h_k (1 : Int32) (kinf h_k)) (cwV 2 hts (gV iX1_signed (zin__r14 (.methodLink RX0 29 yX1_signed) (List.mem_of_getElem? (i := 7) rfl))) rfl rfl rfl (by decide +kernel) ⟨Nat.le_of_ble_eq_true rfl, Nat.le_of_ble_eq_true rfl⟩) ⟨fun a U g mk q => ⟨q.1, kU_bl q.2⟩, (kA_rv hk h_h_k), fun U hU hW => ⟨rfl, kU_mvH hk hU hW⟩⟩ rfl rfl hl.1 rfl (lv_room (Nat.le_of_ble_eq_true rfl)) dX0_everything_20 ⟨Nat.le_of_ble_eq_true rfl, Nat.le_of_ble_eq_true rfl⟩)) (fun r_20 hr_20 => ?_)
  subst hr_20
  refine lv_aload_n hx hb dX0_everything_23 rfl (lv_at hl 0 rfl) ?_
  refine gf_H hx hb hr_h.2.1 hown (hts _ (zin__r13 (.fieldLink RX0 9 "ReckonBench$Interval" "kind" "LReckonBench$Kind;") (List.mem_of_getElem? (i := 13) rfl))) (fun _ h9 => h9) dX0_everything_24 ?_
  refine gf_H hx hb (kE9_infinite hk h_h_k) hown (hts _ (zin__r14 (.fieldLink RX0 26 "ReckonBench$Kind" "infinite" "J") (List.mem_of_getElem? (i := 6) rfl))) (fun _ h9 => h9) dX0_everything_27 ?_
  have hFc := va_free (wc := [(q_0, .inr (0, [.null, .long 0, .long 0]))]) hD hS hA [0] rfl
  refine va_callv (va_runI (As := [.ref (ad h_k), .long (f_X1_signed h_k (1 : Int32) (kinf h_k)), .long (kinf h_k)]) (rest := [.ref q_0]) ⟨hx, hb, hml, hown, hts⟩ (c_X0_init l dC dI ad q_0 h_k (f_X1_signed h_k (1 : Int32) (kinf h_k)) (kinf h_k) H.size) (cwI 3 hts (gI iX0_init.2.2) rfl rfl rfl (hts _ iX0_init.2.1) (hts _ (zin__r14 (.methodLink RX0 33 yX0_init) (List.mem_of_getElem? (i := 8) rfl))) (hts _ iX0_init.1) rfl (by decide +kernel) ⟨Nat.le_of_ble_eq_true rfl, Nat.le_of_ble_eq_true rfl⟩) ⟨fun a U g mk q9 => by obtain ⟨q0, q1, qP, qK, qD⟩ := q9; exact ⟨q0, q1, qP, va_K.moved (u := U) (U := U.calling g mk a) (Vm.Alike.refl U.vm) qK, qD⟩, fun U hU hW => ⟨rfl, by rw [hU], by rw [hU]; exact hP, va_K.moved hW.alike hK, hD.weaken (fun _ _ _ _ => trivial)⟩⟩ rfl rfl hl.1 rfl (lv_room (Nat.le_of_ble_eq_true rfl)) dX0_everything_30 ⟨Nat.le_of_ble_eq_true rfl, Nat.le_of_ble_eq_true rfl⟩) hS (fun q _ h => hFc q h) hFc (fun u_30 t H1 locs ht hvm hw1 hB hz1 hk1 hS => ?_)
  obtain ⟨hP, -, hD1⟩ := hB
  rw [ht] at hP
  have hD := hD1.weaken (fun k q _ h => hFc q.1 h)
  generalize H1 = H at hP hS ⊢
  have hf : f_X0_everything h_k h_lo h_hi = u_30 := hf.trans (congrArg (fun z => z) hw1.symm)
  refine W.widen (k := 1) (n := 3) (Nat.le_of_ble_eq_true rfl) (Nat.le_of_ble_eq_true rfl) ?_
  exact W.aret (v := .ref q_0) hx hb hr (Or.inl ⟨_, rfl⟩) (Or.inr ⟨_, rfl⟩) (fun t ht hW => ⟨⟨u_30, q_0, rfl, hf.symm, by rw [ht]; exact hP, va_K.moved hW.alike hK, hD⟩, hS.F ht⟩) hS.2.2 dX0_everything_33
def f_X0_nothing (h_k : Nat) (h_lo : Int64) (h_hi : Int64) : Int64 × Int64 := ((knan h_k), (knan h_k))
def zX0_nothing : List Cond := .code yX0_nothing cX0_nothing 1 (some (.object "ReckonBench$Interval")) :: zall
theorem iX0_nothing : MWv RX0 yX0_nothing (.code yX0_nothing cX0_nothing 1 (some (.object "ReckonBench$Interval"))) := ⟨(zin__r16 (.instanceMethod yX0_nothing) (List.mem_of_getElem? (i := 12) rfl)), (zin__r16 (.selects RX0 yX0_nothing yX0_nothing) (List.mem_of_getElem? (i := 13) rfl)), (zin__r13 (.initialized RX0) (List.mem_of_getElem? (i := 8) rfl)), (zin__r16 (.code yX0_nothing cX0_nothing 1 (some (.object "ReckonBench$Interval"))) (List.mem_of_getElem? (i := 14) rfl))⟩
set_option maxHeartbeats 4000000 in
set_option maxRecDepth 100000 in
theorem c_X0_nothing (l : Launch) (dC : Nat → ClassId) (dI : Nat → Nat → Nat) (ad : Nat → Nat) (h h_k : Nat) (h_h_k : h_k < 2) (h_lo h_hi : Int64) (sz : Nat) : Met l yX0_nothing zX0_nothing ({ frames := 2, cells := 1, slots := 3, locals := 37 }) (va_Pc [.ref h] (fun U => aB dC dI ad sz U ∧ iU h ad h_k h_lo h_hi U)) (va_Qr (fun u => u = f_X0_nothing h_k h_lo h_hi) (aE dC dI ad h_k (va_A [] sz)) (va_A [] sz)) 1 3 (va_A [] sz) := by
  refine Met.ofW (cc := cX0_nothing) (maxL := 1) (ret := (some (.object "ReckonBench$Interval"))) (by decide) rfl ?_
  intro p e s m args below meth c s₁ B hml hv
  obtain ⟨rfl, ⟨hsz, hK, hk⟩, hr_h⟩ := hv
  have hx := B.exec
  have hb := B.bytes
  have hr := B.returns
  have hts : ∀ w ∈ zall, w.before _ s = true := fun w h => atoms_spec (ws := zX0_nothing) B.pre w (List.mem_cons_of_mem _ h)
  have hown : s.vm.findClass RX0 = some m.cls := findClass_of_methodNamed B.named
  have hlocks := B.notSynchronized
  subst hsz
  have hP : va_P (dC, dI) vwCl [] s.heap := fun k q h => by simp at h
  have hD : va_D (va_A [] s.heap.size) [] := ⟨fun i j p q h => by simp at h, fun k q h => by simp at h⟩
  have hkA := kA_new hk
  have hiA_h := iH_new0 hr_h
  generalize hAe : va_A [] s.heap.size = A at hD hkA hiA_h ⊢
  have hA : ∀ q : Nat, s.heap.size ≤ q → A q := fun q h => by rw [← hAe]; exact Or.inr h
  have hS : va_S A s.heap s.heap [] := va_S.rf
  have hk := kA_at hkA hS
  have hr_h := iA_at hiA_h hS
  have hl := lv_entry ([.ref h]) (n := 1) (Nat.le_of_ble_eq_true rfl)
  rw [lg_entry_eq]
  generalize (lg_sl ([.ref h]) ++ List.replicate (1 - (lg_sl ([.ref h])).length) Slot.unset).toArray = ls at hl ⊢
  have hl : lv_has ls 1 [(0, .ref h)] := hl
  have hf : f_X0_nothing h_k h_lo h_hi = ((knan h_k), (knan h_k)) := rfl
  refine va_new (ci := 0) (fs := [.null, .long 0, .long 0]) (C := RX0) (T := TX0) (N := 3) hx hb hts zin_X0 tyX0 tyX0_ok hown (hts _ (zin__r14 (.classLink RX0 1 RX0) (List.mem_of_getElem? (i := 5) rfl))) (hts _ (zin__r13 (.instantiable RX0 3) (List.mem_of_getElem? (i := 7) rfl))) (hts _ (zin__r13 (.initialized RX0) (List.mem_of_getElem? (i := 8) rfl))) hK hP hD hS hA rfl (fun j hj => by rcases (show j = 0 ∨ j = 1 ∨ j = 2 by omega) with rfl | rfl | rfl <;> rfl) (Nat.le_of_ble_eq_true rfl) (Nat.le_of_ble_eq_true rfl) dX0_nothing_0 (fun q_0 H hP hD hS => ?_)
  have hP : va_P (dC, dI) vwCl [(q_0, .inr (0, [.null, .long 0, .long 0]))] H := hP
  have hD : va_D A [(q_0, .inr (0, [.null, .long 0, .long 0]))] := hD
  have hk := kA_at hkA hS
  have hr_h := iA_at hiA_h hS
  refine lv_dup hx hb dX0_nothing_3 rfl ?_
  refine lv_aload_n hx hb dX0_nothing_4 rfl (lv_at hl 0 rfl) ?_
  refine gf_H hx hb hr_h.2.1 hown (hts _ (zin__r13 (.fieldLink RX0 9 "ReckonBench$Interval" "kind" "LReckonBench$Kind;") (List.mem_of_getElem? (i := 13) rfl))) (fun _ h9 => h9) dX0_nothing_5 ?_
  refine lv_aload_n hx hb dX0_nothing_8 rfl (lv_at hl 0 rfl) ?_
  refine gf_H hx hb hr_h.2.1 hown (hts _ (zin__r13 (.fieldLink RX0 9 "ReckonBench$Interval" "kind" "LReckonBench$Kind;") (List.mem_of_getElem? (i := 13) rfl))) (fun _ h9 => h9) dX0_nothing_9 ?_
  refine gf_H hx hb (kE9_nan hk h_h_k) hown (hts _ (zin__r16 (.fieldLink RX0 36 "ReckonBench$Kind" "nan" "J") (List.mem_of_getElem? (i := 15) rfl))) (fun _ h9 => h9) dX0_nothing_12 ?_
  refine lv_aload_n hx hb dX0_nothing_15 rfl (lv_at hl 0 rfl) ?_
  refine gf_H hx hb hr_h.2.1 hown (hts _ (zin__r13 (.fieldLink RX0 9 "ReckonBench$Interval" "kind" "LReckonBench$Kind;") (List.mem_of_getElem? (i := 13) rfl))) (fun _ h9 => h9) dX0_nothing_16 ?_
  refine gf_H hx hb (kE9_nan hk h_h_k) hown (hts _ (zin__r16 (.fieldLink RX0 36 "ReckonBench$Kind" "nan" "J") (List.mem_of_getElem? (i := 15) rfl))) (fun _ h9 => h9) dX0_nothing_19 ?_
  have hFc := va_free (wc := [(q_0, .inr (0, [.null, .long 0, .long 0]))]) hD hS hA [0] rfl
  refine va_callv (va_runI (As := [.ref (ad h_k), .long (knan h_k), .long (knan h_k)]) (rest := [.ref q_0]) ⟨hx, hb, hml, hown, hts⟩ (c_X0_init l dC dI ad q_0 h_k (knan h_k) (knan h_k) H.size) (cwI 3 hts (gI iX0_init.2.2) rfl rfl rfl (hts _ iX0_init.2.1) (hts _ (zin__r14 (.methodLink RX0 33 yX0_init) (List.mem_of_getElem? (i := 8) rfl))) (hts _ iX0_init.1) rfl (by decide +kernel) ⟨Nat.le_of_ble_eq_true rfl, Nat.le_of_ble_eq_true rfl⟩) ⟨fun a U g mk q9 => by obtain ⟨q0, q1, qP, qK, qD⟩ := q9; exact ⟨q0, q1, qP, va_K.moved (u := U) (U := U.calling g mk a) (Vm.Alike.refl U.vm) qK, qD⟩, fun U hU hW => ⟨rfl, by rw [hU], by rw [hU]; exact hP, va_K.moved hW.alike hK, hD.weaken (fun _ _ _ _ => trivial)⟩⟩ rfl rfl hl.1 rfl (lv_room (Nat.le_of_ble_eq_true rfl)) dX0_nothing_22 ⟨Nat.le_of_ble_eq_true rfl, Nat.le_of_ble_eq_true rfl⟩) hS (fun q _ h => hFc q h) hFc (fun u_22 t H1 locs ht hvm hw1 hB hz1 hk1 hS => ?_)
  obtain ⟨hP, -, hD1⟩ := hB
  rw [ht] at hP
  have hD := hD1.weaken (fun k q _ h => hFc q.1 h)
  generalize H1 = H at hP hS ⊢
  have hf : f_X0_nothing h_k h_lo h_hi = u_22 := hf.trans (congrArg (fun z => z) hw1.symm)
  refine W.widen (k := 1) (n := 3) (Nat.le_of_ble_eq_true rfl) (Nat.le_of_ble_eq_true rfl) ?_
  exact W.aret (v := .ref q_0) hx hb hr (Or.inl ⟨_, rfl⟩) (Or.inr ⟨_, rfl⟩) (fun t ht hW => ⟨⟨u_22, q_0, rfl, hf.symm, by rw [ht]; exact hP, va_K.moved hW.alike hK, hD⟩, hS.F ht⟩) hS.2.2 dX0_nothing_25
def f_X0_outward_1 (w_1 : Int64) (w_2 : Int64) : Int64 × Int64 := (w_1, w_2)
def f_X0_outward_2 (h_k : Nat) (x2 : Int64) (w_1 : Int64) : Int64 × Int64 := if (f_X1_isNan h_k x2) = 0 then (f_X0_outward_1 w_1 (f_X1_stepped h_k x2 (1 : Int32))) else (f_X0_outward_1 w_1 (kinf h_k))
def f_X0_outward_3 (h_k : Nat) (x1 : Int64) (x2 : Int64) : Int64 × Int64 := if (f_X1_isNan h_k x1) = 0 then (f_X0_outward_2 h_k x2 (f_X1_stepped h_k x1 (-1 : Int32))) else (f_X0_outward_2 h_k x2 (f_X1_signed h_k (1 : Int32) (kinf h_k)))
def f_X0_outward (h_k : Nat) (h_lo : Int64) (h_hi : Int64) (x1 : Int64) (x2 : Int64) : Int64 × Int64 := (f_X0_outward_3 h_k x1 x2)
def zX0_outward : List Cond := .code yX0_outward cX0_outward 9 (some (.object "ReckonBench$Interval")) :: zall
theorem iX0_outward : MWv RX0 yX0_outward (.code yX0_outward cX0_outward 9 (some (.object "ReckonBench$Interval"))) := ⟨(zin__r14 (.instanceMethod yX0_outward) (List.mem_of_getElem? (i := 21) rfl)), (zin__r14 (.selects RX0 yX0_outward yX0_outward) (List.mem_of_getElem? (i := 22) rfl)), (zin__r13 (.initialized RX0) (List.mem_of_getElem? (i := 8) rfl)), (zin__r14 (.code yX0_outward cX0_outward 9 (some (.object "ReckonBench$Interval"))) (List.mem_of_getElem? (i := 23) rfl))⟩
set_option maxHeartbeats 4000000 in
set_option maxRecDepth 100000 in
theorem c_X0_outward (l : Launch) (dC : Nat → ClassId) (dI : Nat → Nat → Nat) (ad : Nat → Nat) (h h_k : Nat) (h_h_k : h_k < 2) (h_lo h_hi : Int64) (x1 : Int64) (x2 : Int64) (sz : Nat) : Met l yX0_outward zX0_outward ({ frames := 3, cells := 1, slots := 3, locals := 69 }) (va_Pc [.ref h, .long x1, .long x2] (fun U => aB dC dI ad sz U ∧ iU h ad h_k h_lo h_hi U)) (va_Qr (fun u => u = f_X0_outward h_k h_lo h_hi x1 x2) (aE dC dI ad h_k (va_A [] sz)) (va_A [] sz)) 1 3 (va_A [] sz) := by
  refine Met.ofW (cc := cX0_outward) (maxL := 9) (ret := (some (.object "ReckonBench$Interval"))) (by decide) rfl ?_
  intro p e s m args below meth c s₁ B hml hv
  obtain ⟨rfl, ⟨hsz, hK, hk⟩, hr_h⟩ := hv
  have hx := B.exec
  have hb := B.bytes
  have hr := B.returns
  have hts : ∀ w ∈ zall, w.before _ s = true := fun w h => atoms_spec (ws := zX0_outward) B.pre w (List.mem_cons_of_mem _ h)
  have hown : s.vm.findClass RX0 = some m.cls := findClass_of_methodNamed B.named
  have hlocks := B.notSynchronized
  subst hsz
  have hP : va_P (dC, dI) vwCl [] s.heap := fun k q h => by simp at h
  have hD : va_D (va_A [] s.heap.size) [] := ⟨fun i j p q h => by simp at h, fun k q h => by simp at h⟩
  have hkA := kA_new hk
  have hiA_h := iH_new0 hr_h
  generalize hAe : va_A [] s.heap.size = A at hD hkA hiA_h ⊢
  have hA : ∀ q : Nat, s.heap.size ≤ q → A q := fun q h => by rw [← hAe]; exact Or.inr h
  have hS : va_S A s.heap s.heap [] := va_S.rf
  have hk := kA_at hkA hS
  have hr_h := iA_at hiA_h hS
  have hl := lv_entry ([.ref h, .long x1, .long x2]) (n := 9) (Nat.le_of_ble_eq_true rfl)
  rw [lg_entry_eq]
  generalize (lg_sl ([.ref h, .long x1, .long x2]) ++ List.replicate (9 - (lg_sl ([.ref h, .long x1, .long x2])).length) Slot.unset).toArray = ls at hl ⊢
  have hl : lv_has ls 9 [(0, .ref h), (1, .long x1), (3, .long x2)] := hl
  have hf : f_X0_outward h_k h_lo h_hi x1 x2 = (f_X0_outward_3 h_k x1 x2) := rfl
  refine lv_aload_n hx hb dX0_outward_0 rfl (lv_at hl 0 rfl) ?_
  refine gf_H hx hb hr_h.2.1 hown (hts _ (zin__r13 (.fieldLink RX0 9 "ReckonBench$Interval" "kind" "LReckonBench$Kind;") (List.mem_of_getElem? (i := 13) rfl))) (fun _ h9 => h9) dX0_outward_1 ?_
  refine lv_lload_n hx hb dX0_outward_4 rfl (lv_at hl 1 rfl) ?_
  refine vp_callSi (va_Run.run (va_runV (As := [.long x1]) (rest := []) ⟨hx, hb, hml, hown, hts⟩ (c_X1_isNan l ad h_k h_h_k x1) (cwV 1 hts (gV iX1_isNan (zin__r15 (.methodLink RX0 79 yX1_isNan) (List.mem_of_getElem? (i := 0) rfl))) rfl rfl rfl (by decide +kernel) ⟨Nat.le_of_ble_eq_true rfl, Nat.le_of_ble_eq_true rfl⟩) ⟨fun a U g mk q => ⟨q.1, kU_bl q.2⟩, (kA_rv hk h_h_k), fun U hU hW => ⟨rfl, kU_mvH hk hU hW⟩⟩ rfl rfl hl.1 rfl (lv_room (Nat.le_of_ble_eq_true rfl)) dX0_outward_5 ⟨Nat.le_of_ble_eq_true rfl, Nat.le_of_ble_eq_true rfl⟩)) (fun r_5 hr_5 => ?_)
  subst hr_5
  refine W_cut (α := Int64) (pcJ := 38) (nL := 9) (fun v => f_X0_outward h_k h_lo h_hi x1 x2 = (f_X0_outward_2 h_k x2 v)) (fun v => [.long v]) (fun v => [(0, .ref h), (3, .long x2)]) (fun w_1 ls hf hl => ?_) (fun K_38 => ?_)
  · have hf : f_X0_outward h_k h_lo h_hi x1 x2 = (f_X0_outward_2 h_k x2 w_1) := hf
    have hl : lv_has ls 9 [(0, .ref h), (3, .long x2)] := hl
    refine lv_lstore (lv' := [(5, .long w_1), (0, .ref h), (3, .long x2)]) hx hb dX0_outward_38 hl (by decide) rfl (fun ls hl => ?_)
    refine lv_aload_n hx hb dX0_outward_40 rfl (lv_at hl 1 rfl) ?_
    refine gf_H hx hb hr_h.2.1 hown (hts _ (zin__r13 (.fieldLink RX0 9 "ReckonBench$Interval" "kind" "LReckonBench$Kind;") (List.mem_of_getElem? (i := 13) rfl))) (fun _ h9 => h9) dX0_outward_41 ?_
    refine lv_lload_n hx hb dX0_outward_44 rfl (lv_at hl 2 rfl) ?_
    refine vp_callSi (va_Run.run (va_runV (As := [.long x2]) (rest := []) ⟨hx, hb, hml, hown, hts⟩ (c_X1_isNan l ad h_k h_h_k x2) (cwV 1 hts (gV iX1_isNan (zin__r15 (.methodLink RX0 79 yX1_isNan) (List.mem_of_getElem? (i := 0) rfl))) rfl rfl rfl (by decide +kernel) ⟨Nat.le_of_ble_eq_true rfl, Nat.le_of_ble_eq_true rfl⟩) ⟨fun a U g mk q => ⟨q.1, kU_bl q.2⟩, (kA_rv hk h_h_k), fun U hU hW => ⟨rfl, kU_mvH hk hU hW⟩⟩ rfl rfl hl.1 rfl (lv_room (Nat.le_of_ble_eq_true rfl)) dX0_outward_45 ⟨Nat.le_of_ble_eq_true rfl, Nat.le_of_ble_eq_true rfl⟩)) (fun r_45 hr_45 => ?_)
    subst hr_45
    refine W_cut (α := Int64) (pcJ := 70) (nL := 9) (fun v => f_X0_outward h_k h_lo h_hi x1 x2 = (f_X0_outward_1 w_1 v)) (fun v => [.long v]) (fun v => [(0, .ref h), (5, .long w_1)]) (fun w_2 ls hf hl => ?_) (fun K_70 => ?_)
    · have hf : f_X0_outward h_k h_lo h_hi x1 x2 = (w_1, w_2) := hf
      have hl : lv_has ls 9 [(0, .ref h), (5, .long w_1)] := hl
      refine lv_lstore (lv' := [(7, .long w_2), (0, .ref h), (5, .long w_1)]) hx hb dX0_outward_70 hl (by decide) rfl (fun ls hl => ?_)
      refine va_new (ci := 0) (fs := [.null, .long 0, .long 0]) (C := RX0) (T := TX0) (N := 3) hx hb hts zin_X0 tyX0 tyX0_ok hown (hts _ (zin__r14 (.classLink RX0 1 RX0) (List.mem_of_getElem? (i := 5) rfl))) (hts _ (zin__r13 (.instantiable RX0 3) (List.mem_of_getElem? (i := 7) rfl))) (hts _ (zin__r13 (.initialized RX0) (List.mem_of_getElem? (i := 8) rfl))) hK hP hD hS hA rfl (fun j hj => by rcases (show j = 0 ∨ j = 1 ∨ j = 2 by omega) with rfl | rfl | rfl <;> rfl) (Nat.le_of_ble_eq_true rfl) (Nat.le_of_ble_eq_true rfl) dX0_outward_72 (fun q_72 H hP hD hS => ?_)
      have hP : va_P (dC, dI) vwCl [(q_72, .inr (0, [.null, .long 0, .long 0]))] H := hP
      have hD : va_D A [(q_72, .inr (0, [.null, .long 0, .long 0]))] := hD
      have hk := kA_at hkA hS
      have hr_h := iA_at hiA_h hS
      refine lv_dup hx hb dX0_outward_75 rfl ?_
      refine lv_aload_n hx hb dX0_outward_76 rfl (lv_at hl 1 rfl) ?_
      refine gf_H hx hb hr_h.2.1 hown (hts _ (zin__r13 (.fieldLink RX0 9 "ReckonBench$Interval" "kind" "LReckonBench$Kind;") (List.mem_of_getElem? (i := 13) rfl))) (fun _ h9 => h9) dX0_outward_77 ?_
      refine lv_lload hx hb dX0_outward_80 (lv_at hl 2 rfl) ?_
      refine lv_lload hx hb dX0_outward_82 (lv_at hl 0 rfl) ?_
      have hFc := va_free (wc := [(q_72, .inr (0, [.null, .long 0, .long 0]))]) hD hS hA [0] rfl
      refine va_callv (va_runI (As := [.ref (ad h_k), .long w_1, .long w_2]) (rest := [.ref q_72]) ⟨hx, hb, hml, hown, hts⟩ (c_X0_init l dC dI ad q_72 h_k w_1 w_2 H.size) (cwI 3 hts (gI iX0_init.2.2) rfl rfl rfl (hts _ iX0_init.2.1) (hts _ (zin__r14 (.methodLink RX0 33 yX0_init) (List.mem_of_getElem? (i := 8) rfl))) (hts _ iX0_init.1) rfl (by decide +kernel) ⟨Nat.le_of_ble_eq_true rfl, Nat.le_of_ble_eq_true rfl⟩) ⟨fun a U g mk q9 => by obtain ⟨q0, q1, qP, qK, qD⟩ := q9; exact ⟨q0, q1, qP, va_K.moved (u := U) (U := U.calling g mk a) (Vm.Alike.refl U.vm) qK, qD⟩, fun U hU hW => ⟨rfl, by rw [hU], by rw [hU]; exact hP, va_K.moved hW.alike hK, hD.weaken (fun _ _ _ _ => trivial)⟩⟩ rfl rfl hl.1 rfl (lv_room (Nat.le_of_ble_eq_true rfl)) dX0_outward_84 ⟨Nat.le_of_ble_eq_true rfl, Nat.le_of_ble_eq_true rfl⟩) hS (fun q _ h => hFc q h) hFc (fun u_84 t H1 locs ht hvm hw1 hB hz1 hk1 hS => ?_)
      obtain ⟨hP, -, hD1⟩ := hB
      rw [ht] at hP
      have hD := hD1.weaken (fun k q _ h => hFc q.1 h)
      generalize H1 = H at hP hS ⊢
      have hf : f_X0_outward h_k h_lo h_hi x1 x2 = u_84 := hf.trans (congrArg (fun z => z) hw1.symm)
      refine W.widen (k := 1) (n := 3) (Nat.le_of_ble_eq_true rfl) (Nat.le_of_ble_eq_true rfl) ?_
      exact W.aret (v := .ref q_72) hx hb hr (Or.inl ⟨_, rfl⟩) (Or.inr ⟨_, rfl⟩) (fun t ht hW => ⟨⟨u_84, q_72, rfl, hf.symm, by rw [ht]; exact hP, va_K.moved hW.alike hK, hD⟩, hS.F ht⟩) hS.2.2 dX0_outward_87
    refine lv_if_eq (tgt := 61) hx hb dX0_outward_48 (by decide) (fun c_48 => ?_) (fun c_48 => ?_)
    · have hf : f_X0_outward h_k h_lo h_hi x1 x2 = (f_X0_outward_1 w_1 (f_X1_stepped h_k x2 (1 : Int32))) := hf.trans (if_pos c_48)
      refine lv_aload_n hx hb dX0_outward_61 rfl (lv_at hl 1 rfl) ?_
      refine gf_H hx hb hr_h.2.1 hown (hts _ (zin__r13 (.fieldLink RX0 9 "ReckonBench$Interval" "kind" "LReckonBench$Kind;") (List.mem_of_getElem? (i := 13) rfl))) (fun _ h9 => h9) dX0_outward_62 ?_
      refine lv_lload_n hx hb dX0_outward_65 rfl (lv_at hl 2 rfl) ?_
      refine lv_iconst (v := 1) hx hb dX0_outward_66 (by decide) ?_
      refine vp_callSl (va_Run.run (va_runV (As := [.long x2, .int (1 : Int32)]) (rest := []) ⟨hx, hb, hml, hown, hts⟩ (c_X1_stepped l ad h_k h_h_k x2 (1 : Int32)) (cwV 2 hts (gV iX1_stepped (zin__r15 (.methodLink RX0 83 yX1_stepped) (List.mem_of_getElem? (i := 1) rfl))) rfl rfl rfl (by decide +kernel) ⟨Nat.le_of_ble_eq_true rfl, Nat.le_of_ble_eq_true rfl⟩) ⟨fun a U g mk q => ⟨q.1, kU_bl q.2⟩, (kA_rv hk h_h_k), fun U hU hW => ⟨rfl, kU_mvH hk hU hW⟩⟩ rfl rfl hl.1 rfl (lv_room (Nat.le_of_ble_eq_true rfl)) dX0_outward_67 ⟨Nat.le_of_ble_eq_true rfl, Nat.le_of_ble_eq_true rfl⟩)) (fun r_67 hr_67 => ?_)
      subst hr_67
      exact K_70 (f_X1_stepped h_k x2 (1 : Int32)) ls hf (lv_sub hl [1, 0] rfl)
    · have hf : f_X0_outward h_k h_lo h_hi x1 x2 = (f_X0_outward_1 w_1 (kinf h_k)) := hf.trans (if_neg c_48)
      refine lv_aload_n hx hb dX0_outward_51 rfl (lv_at hl 1 rfl) ?_
      refine gf_H hx hb hr_h.2.1 hown (hts _ (zin__r13 (.fieldLink RX0 9 "ReckonBench$Interval" "kind" "LReckonBench$Kind;") (List.mem_of_getElem? (i := 13) rfl))) (fun _ h9 => h9) dX0_outward_52 ?_
      refine gf_H hx hb (kE9_infinite hk h_h_k) hown (hts _ (zin__r14 (.fieldLink RX0 26 "ReckonBench$Kind" "infinite" "J") (List.mem_of_getElem? (i := 6) rfl))) (fun _ h9 => h9) dX0_outward_55 ?_
      refine lv_goto (tgt := 70) hx hb dX0_outward_58 (by decide) ?_
      exact K_70 (kinf h_k) ls hf (lv_sub hl [1, 0] rfl)
  refine lv_if_eq (tgt := 29) hx hb dX0_outward_8 (by decide) (fun c_8 => ?_) (fun c_8 => ?_)
  · have hf : f_X0_outward h_k h_lo h_hi x1 x2 = (f_X0_outward_2 h_k x2 (f_X1_stepped h_k x1 (-1 : Int32))) := hf.trans (if_pos c_8)
    refine lv_aload_n hx hb dX0_outward_29 rfl (lv_at hl 0 rfl) ?_
    refine gf_H hx hb hr_h.2.1 hown (hts _ (zin__r13 (.fieldLink RX0 9 "ReckonBench$Interval" "kind" "LReckonBench$Kind;") (List.mem_of_getElem? (i := 13) rfl))) (fun _ h9 => h9) dX0_outward_30 ?_
    refine lv_lload_n hx hb dX0_outward_33 rfl (lv_at hl 1 rfl) ?_
    refine lv_iconst (v := -1) hx hb dX0_outward_34 (by decide) ?_
    refine vp_callSl (va_Run.run (va_runV (As := [.long x1, .int (-1 : Int32)]) (rest := []) ⟨hx, hb, hml, hown, hts⟩ (c_X1_stepped l ad h_k h_h_k x1 (-1 : Int32)) (cwV 2 hts (gV iX1_stepped (zin__r15 (.methodLink RX0 83 yX1_stepped) (List.mem_of_getElem? (i := 1) rfl))) rfl rfl rfl (by decide +kernel) ⟨Nat.le_of_ble_eq_true rfl, Nat.le_of_ble_eq_true rfl⟩) ⟨fun a U g mk q => ⟨q.1, kU_bl q.2⟩, (kA_rv hk h_h_k), fun U hU hW => ⟨rfl, kU_mvH hk hU hW⟩⟩ rfl rfl hl.1 rfl (lv_room (Nat.le_of_ble_eq_true rfl)) dX0_outward_35 ⟨Nat.le_of_ble_eq_true rfl, Nat.le_of_ble_eq_true rfl⟩)) (fun r_35 hr_35 => ?_)
    subst hr_35
    exact K_38 (f_X1_stepped h_k x1 (-1 : Int32)) ls hf (lv_sub hl [0, 2] rfl)
  · have hf : f_X0_outward h_k h_lo h_hi x1 x2 = (f_X0_outward_2 h_k x2 (f_X1_signed h_k (1 : Int32) (kinf h_k))) := hf.trans (if_neg c_8)
    refine lv_aload_n hx hb dX0_outward_11 rfl (lv_at hl 0 rfl) ?_
    refine gf_H hx hb hr_h.2.1 hown (hts _ (zin__r13 (.fieldLink RX0 9 "ReckonBench$Interval" "kind" "LReckonBench$Kind;") (List.mem_of_getElem? (i := 13) rfl))) (fun _ h9 => h9) dX0_outward_12 ?_
    refine lv_iconst (v := 1) hx hb dX0_outward_15 (by decide) ?_
    refine lv_aload_n hx hb dX0_outward_16 rfl (lv_at hl 0 rfl) ?_
    refine gf_H hx hb hr_h.2.1 hown (hts _ (zin__r13 (.fieldLink RX0 9 "ReckonBench$Interval" "kind" "LReckonBench$Kind;") (List.mem_of_getElem? (i := 13) rfl))) (fun _ h9 => h9) dX0_outward_17 ?_
    refine gf_H hx hb (kE9_infinite hk h_h_k) hown (hts _ (zin__r14 (.fieldLink RX0 26 "ReckonBench$Kind" "infinite" "J") (List.mem_of_getElem? (i := 6) rfl))) (fun _ h9 => h9) dX0_outward_20 ?_
    refine vp_callSl (va_Run.run (va_runV (As := [.int (1 : Int32), .long (kinf h_k)]) (rest := []) ⟨hx, hb, hml, hown, hts⟩ (c_X1_signed l ad h_k h_h_k (1 : Int32) (kinf h_k)) (cwV 2 hts (gV iX1_signed (zin__r14 (.methodLink RX0 29 yX1_signed) (List.mem_of_getElem? (i := 7) rfl))) rfl rfl rfl (by decide +kernel) ⟨Nat.le_of_ble_eq_true rfl, Nat.le_of_ble_eq_true rfl⟩) ⟨fun a U g mk q => ⟨q.1, kU_bl q.2⟩, (kA_rv hk h_h_k), fun U hU hW => ⟨rfl, kU_mvH hk hU hW⟩⟩ rfl rfl hl.1 rfl (lv_room (Nat.le_of_ble_eq_true rfl)) dX0_outward_23 ⟨Nat.le_of_ble_eq_true rfl, Nat.le_of_ble_eq_true rfl⟩)) (fun r_23 hr_23 => ?_)
    subst hr_23
    refine lv_goto (tgt := 38) hx hb dX0_outward_26 (by decide) ?_
    exact K_38 (f_X1_signed h_k (1 : Int32) (kinf h_k)) ls hf (lv_sub hl [0, 2] rfl)
def f_X0_ofFour (h_k : Nat) (h_lo : Int64) (h_hi : Int64) (x1 : Int64) (x2 : Int64) (x3 : Int64) (x4 : Int64) : Int64 × Int64 := (f_X0_outward h_k h_lo h_hi (f_X1_lesser h_k (f_X1_lesser h_k x1 x2) (f_X1_lesser h_k x3 x4)) (f_X1_greater h_k (f_X1_greater h_k x1 x2) (f_X1_greater h_k x3 x4)))
def zX0_ofFour : List Cond := .code yX0_ofFour cX0_ofFour 9 (some (.object "ReckonBench$Interval")) :: zall
theorem iX0_ofFour : MWv RX0 yX0_ofFour (.code yX0_ofFour cX0_ofFour 9 (some (.object "ReckonBench$Interval"))) := ⟨(zin__r16 (.instanceMethod yX0_ofFour) (List.mem_of_getElem? (i := 1) rfl)), (zin__r16 (.selects RX0 yX0_ofFour yX0_ofFour) (List.mem_of_getElem? (i := 2) rfl)), (zin__r13 (.initialized RX0) (List.mem_of_getElem? (i := 8) rfl)), (zin__r16 (.code yX0_ofFour cX0_ofFour 9 (some (.object "ReckonBench$Interval"))) (List.mem_of_getElem? (i := 3) rfl))⟩
set_option maxHeartbeats 4000000 in
set_option maxRecDepth 100000 in
theorem c_X0_ofFour (l : Launch) (dC : Nat → ClassId) (dI : Nat → Nat → Nat) (ad : Nat → Nat) (h h_k : Nat) (h_h_k : h_k < 2) (h_lo h_hi : Int64) (x1 : Int64) (x2 : Int64) (x3 : Int64) (x4 : Int64) (sz : Nat) : Met l yX0_ofFour zX0_ofFour ({ frames := 4, cells := 1, slots := 3, locals := 97 }) (va_Pc [.ref h, .long x1, .long x2, .long x3, .long x4] (fun U => aB dC dI ad sz U ∧ iU h ad h_k h_lo h_hi U)) (va_Qr (fun u => u = f_X0_ofFour h_k h_lo h_hi x1 x2 x3 x4) (aE dC dI ad h_k (va_A [] sz)) (va_A [] sz)) 1 3 (va_A [] sz) := by
  refine Met.ofW (cc := cX0_ofFour) (maxL := 9) (ret := (some (.object "ReckonBench$Interval"))) (by decide) rfl ?_
  intro p e s m args below meth c s₁ B hml hv
  obtain ⟨rfl, ⟨hsz, hK, hk⟩, hr_h⟩ := hv
  have hx := B.exec
  have hb := B.bytes
  have hr := B.returns
  have hts : ∀ w ∈ zall, w.before _ s = true := fun w h => atoms_spec (ws := zX0_ofFour) B.pre w (List.mem_cons_of_mem _ h)
  have hown : s.vm.findClass RX0 = some m.cls := findClass_of_methodNamed B.named
  have hlocks := B.notSynchronized
  subst hsz
  have hP : va_P (dC, dI) vwCl [] s.heap := fun k q h => by simp at h
  have hD : va_D (va_A [] s.heap.size) [] := ⟨fun i j p q h => by simp at h, fun k q h => by simp at h⟩
  have hkA := kA_new hk
  have hiA_h := iH_new0 hr_h
  generalize hAe : va_A [] s.heap.size = A at hD hkA hiA_h ⊢
  have hA : ∀ q : Nat, s.heap.size ≤ q → A q := fun q h => by rw [← hAe]; exact Or.inr h
  have hS : va_S A s.heap s.heap [] := va_S.rf
  have hk := kA_at hkA hS
  have hr_h := iA_at hiA_h hS
  have hl := lv_entry ([.ref h, .long x1, .long x2, .long x3, .long x4]) (n := 9) (Nat.le_of_ble_eq_true rfl)
  rw [lg_entry_eq]
  generalize (lg_sl ([.ref h, .long x1, .long x2, .long x3, .long x4]) ++ List.replicate (9 - (lg_sl ([.ref h, .long x1, .long x2, .long x3, .long x4])).length) Slot.unset).toArray = ls at hl ⊢
  have hl : lv_has ls 9 [(0, .ref h), (1, .long x1), (3, .long x2), (5, .long x3), (7, .long x4)] := hl
  have hf : f_X0_ofFour h_k h_lo h_hi x1 x2 x3 x4 = (f_X0_outward h_k h_lo h_hi (f_X1_lesser h_k (f_X1_lesser h_k x1 x2) (f_X1_lesser h_k x3 x4)) (f_X1_greater h_k (f_X1_greater h_k x1 x2) (f_X1_greater h_k x3 x4))) := rfl
  refine lv_aload_n hx hb dX0_ofFour_0 rfl (lv_at hl 0 rfl) ?_
  refine lv_aload_n hx hb dX0_ofFour_1 rfl (lv_at hl 0 rfl) ?_
  refine gf_H hx hb hr_h.2.1 hown (hts _ (zin__r13 (.fieldLink RX0 9 "ReckonBench$Interval" "kind" "LReckonBench$Kind;") (List.mem_of_getElem? (i := 13) rfl))) (fun _ h9 => h9) dX0_ofFour_2 ?_
  refine lv_aload_n hx hb dX0_ofFour_5 rfl (lv_at hl 0 rfl) ?_
  refine gf_H hx hb hr_h.2.1 hown (hts _ (zin__r13 (.fieldLink RX0 9 "ReckonBench$Interval" "kind" "LReckonBench$Kind;") (List.mem_of_getElem? (i := 13) rfl))) (fun _ h9 => h9) dX0_ofFour_6 ?_
  refine lv_lload_n hx hb dX0_ofFour_9 rfl (lv_at hl 1 rfl) ?_
  refine lv_lload_n hx hb dX0_ofFour_10 rfl (lv_at hl 2 rfl) ?_
  refine vp_callSl (va_Run.run (va_runV (As := [.long x1, .long x2]) (rest := [.ref (ad h_k), .ref h]) ⟨hx, hb, hml, hown, hts⟩ (c_X1_lesser l ad h_k h_h_k x1 x2) (cwV 2 hts (gV iX1_lesser (zin__r16 (.methodLink RX0 63 yX1_lesser) (List.mem_of_getElem? (i := 4) rfl))) rfl rfl rfl (by decide +kernel) ⟨Nat.le_of_ble_eq_true rfl, Nat.le_of_ble_eq_true rfl⟩) ⟨fun a U g mk q => ⟨q.1, kU_bl q.2⟩, (kA_rv hk h_h_k), fun U hU hW => ⟨rfl, kU_mvH hk hU hW⟩⟩ rfl rfl hl.1 rfl (lv_room (Nat.le_of_ble_eq_true rfl)) dX0_ofFour_11 ⟨Nat.le_of_ble_eq_true rfl, Nat.le_of_ble_eq_true rfl⟩)) (fun r_11 hr_11 => ?_)
  subst hr_11
  refine lv_aload_n hx hb dX0_ofFour_14 rfl (lv_at hl 0 rfl) ?_
  refine gf_H hx hb hr_h.2.1 hown (hts _ (zin__r13 (.fieldLink RX0 9 "ReckonBench$Interval" "kind" "LReckonBench$Kind;") (List.mem_of_getElem? (i := 13) rfl))) (fun _ h9 => h9) dX0_ofFour_15 ?_
  refine lv_lload hx hb dX0_ofFour_18 (lv_at hl 3 rfl) ?_
  refine lv_lload hx hb dX0_ofFour_20 (lv_at hl 4 rfl) ?_
  refine vp_callSl (va_Run.run (va_runV (As := [.long x3, .long x4]) (rest := [.long (f_X1_lesser h_k x1 x2), .ref (ad h_k), .ref h]) ⟨hx, hb, hml, hown, hts⟩ (c_X1_lesser l ad h_k h_h_k x3 x4) (cwV 2 hts (gV iX1_lesser (zin__r16 (.methodLink RX0 63 yX1_lesser) (List.mem_of_getElem? (i := 4) rfl))) rfl rfl rfl (by decide +kernel) ⟨Nat.le_of_ble_eq_true rfl, Nat.le_of_ble_eq_true rfl⟩) ⟨fun a U g mk q => ⟨q.1, kU_bl q.2⟩, (kA_rv hk h_h_k), fun U hU hW => ⟨rfl, kU_mvH hk hU hW⟩⟩ rfl rfl hl.1 rfl (lv_room (Nat.le_of_ble_eq_true rfl)) dX0_ofFour_22 ⟨Nat.le_of_ble_eq_true rfl, Nat.le_of_ble_eq_true rfl⟩)) (fun r_22 hr_22 => ?_)
  subst hr_22
  refine vp_callSl (va_Run.run (va_runV (As := [.long (f_X1_lesser h_k x1 x2), .long (f_X1_lesser h_k x3 x4)]) (rest := [.ref h]) ⟨hx, hb, hml, hown, hts⟩ (c_X1_lesser l ad h_k h_h_k (f_X1_lesser h_k x1 x2) (f_X1_lesser h_k x3 x4)) (cwV 2 hts (gV iX1_lesser (zin__r16 (.methodLink RX0 63 yX1_lesser) (List.mem_of_getElem? (i := 4) rfl))) rfl rfl rfl (by decide +kernel) ⟨Nat.le_of_ble_eq_true rfl, Nat.le_of_ble_eq_true rfl⟩) ⟨fun a U g mk q => ⟨q.1, kU_bl q.2⟩, (kA_rv hk h_h_k), fun U hU hW => ⟨rfl, kU_mvH hk hU hW⟩⟩ rfl rfl hl.1 rfl (lv_room (Nat.le_of_ble_eq_true rfl)) dX0_ofFour_25 ⟨Nat.le_of_ble_eq_true rfl, Nat.le_of_ble_eq_true rfl⟩)) (fun r_25 hr_25 => ?_)
  subst hr_25
  refine lv_aload_n hx hb dX0_ofFour_28 rfl (lv_at hl 0 rfl) ?_
  refine gf_H hx hb hr_h.2.1 hown (hts _ (zin__r13 (.fieldLink RX0 9 "ReckonBench$Interval" "kind" "LReckonBench$Kind;") (List.mem_of_getElem? (i := 13) rfl))) (fun _ h9 => h9) dX0_ofFour_29 ?_
  refine lv_aload_n hx hb dX0_ofFour_32 rfl (lv_at hl 0 rfl) ?_
  refine gf_H hx hb hr_h.2.1 hown (hts _ (zin__r13 (.fieldLink RX0 9 "ReckonBench$Interval" "kind" "LReckonBench$Kind;") (List.mem_of_getElem? (i := 13) rfl))) (fun _ h9 => h9) dX0_ofFour_33 ?_
  refine lv_lload_n hx hb dX0_ofFour_36 rfl (lv_at hl 1 rfl) ?_
  refine lv_lload_n hx hb dX0_ofFour_37 rfl (lv_at hl 2 rfl) ?_
  refine vp_callSl (va_Run.run (va_runV (As := [.long x1, .long x2]) (rest := [.ref (ad h_k), .long (f_X1_lesser h_k (f_X1_lesser h_k x1 x2) (f_X1_lesser h_k x3 x4)), .ref h]) ⟨hx, hb, hml, hown, hts⟩ (c_X1_greater l ad h_k h_h_k x1 x2) (cwV 2 hts (gV iX1_greater (zin__r16 (.methodLink RX0 66 yX1_greater) (List.mem_of_getElem? (i := 5) rfl))) rfl rfl rfl (by decide +kernel) ⟨Nat.le_of_ble_eq_true rfl, Nat.le_of_ble_eq_true rfl⟩) ⟨fun a U g mk q => ⟨q.1, kU_bl q.2⟩, (kA_rv hk h_h_k), fun U hU hW => ⟨rfl, kU_mvH hk hU hW⟩⟩ rfl rfl hl.1 rfl (lv_room (Nat.le_of_ble_eq_true rfl)) dX0_ofFour_38 ⟨Nat.le_of_ble_eq_true rfl, Nat.le_of_ble_eq_true rfl⟩)) (fun r_38 hr_38 => ?_)
  subst hr_38
  refine lv_aload_n hx hb dX0_ofFour_41 rfl (lv_at hl 0 rfl) ?_
  refine gf_H hx hb hr_h.2.1 hown (hts _ (zin__r13 (.fieldLink RX0 9 "ReckonBench$Interval" "kind" "LReckonBench$Kind;") (List.mem_of_getElem? (i := 13) rfl))) (fun _ h9 => h9) dX0_ofFour_42 ?_
  refine lv_lload hx hb dX0_ofFour_45 (lv_at hl 3 rfl) ?_
  refine lv_lload hx hb dX0_ofFour_47 (lv_at hl 4 rfl) ?_
  refine vp_callSl (va_Run.run (va_runV (As := [.long x3, .long x4]) (rest := [.long (f_X1_greater h_k x1 x2), .ref (ad h_k), .long (f_X1_lesser h_k (f_X1_lesser h_k x1 x2) (f_X1_lesser h_k x3 x4)), .ref h]) ⟨hx, hb, hml, hown, hts⟩ (c_X1_greater l ad h_k h_h_k x3 x4) (cwV 2 hts (gV iX1_greater (zin__r16 (.methodLink RX0 66 yX1_greater) (List.mem_of_getElem? (i := 5) rfl))) rfl rfl rfl (by decide +kernel) ⟨Nat.le_of_ble_eq_true rfl, Nat.le_of_ble_eq_true rfl⟩) ⟨fun a U g mk q => ⟨q.1, kU_bl q.2⟩, (kA_rv hk h_h_k), fun U hU hW => ⟨rfl, kU_mvH hk hU hW⟩⟩ rfl rfl hl.1 rfl (lv_room (Nat.le_of_ble_eq_true rfl)) dX0_ofFour_49 ⟨Nat.le_of_ble_eq_true rfl, Nat.le_of_ble_eq_true rfl⟩)) (fun r_49 hr_49 => ?_)
  subst hr_49
  refine vp_callSl (va_Run.run (va_runV (As := [.long (f_X1_greater h_k x1 x2), .long (f_X1_greater h_k x3 x4)]) (rest := [.long (f_X1_lesser h_k (f_X1_lesser h_k x1 x2) (f_X1_lesser h_k x3 x4)), .ref h]) ⟨hx, hb, hml, hown, hts⟩ (c_X1_greater l ad h_k h_h_k (f_X1_greater h_k x1 x2) (f_X1_greater h_k x3 x4)) (cwV 2 hts (gV iX1_greater (zin__r16 (.methodLink RX0 66 yX1_greater) (List.mem_of_getElem? (i := 5) rfl))) rfl rfl rfl (by decide +kernel) ⟨Nat.le_of_ble_eq_true rfl, Nat.le_of_ble_eq_true rfl⟩) ⟨fun a U g mk q => ⟨q.1, kU_bl q.2⟩, (kA_rv hk h_h_k), fun U hU hW => ⟨rfl, kU_mvH hk hU hW⟩⟩ rfl rfl hl.1 rfl (lv_room (Nat.le_of_ble_eq_true rfl)) dX0_ofFour_52 ⟨Nat.le_of_ble_eq_true rfl, Nat.le_of_ble_eq_true rfl⟩)) (fun r_52 hr_52 => ?_)
  subst hr_52
  have hFc : ∀ q, va_A [] s.heap.size q → A q := fun q h => hA q (Nat.le_trans hS.1 (va_nil h))
  refine va_callr (va_runV (As := [.long (f_X1_lesser h_k (f_X1_lesser h_k x1 x2) (f_X1_lesser h_k x3 x4)), .long (f_X1_greater h_k (f_X1_greater h_k x1 x2) (f_X1_greater h_k x3 x4))]) (rest := []) ⟨hx, hb, hml, hown, hts⟩ (c_X0_outward l dC dI ad h h_k h_h_k h_lo h_hi (f_X1_lesser h_k (f_X1_lesser h_k x1 x2) (f_X1_lesser h_k x3 x4)) (f_X1_greater h_k (f_X1_greater h_k x1 x2) (f_X1_greater h_k x3 x4)) s.heap.size) (cwV 2 hts (gV iX0_outward (zin__r14 (.methodLink RX0 45 yX0_outward) (List.mem_of_getElem? (i := 20) rfl))) rfl rfl rfl (by decide +kernel) ⟨Nat.le_of_ble_eq_true rfl, Nat.le_of_ble_eq_true rfl⟩) ⟨fun a U g mk q => ⟨q.1, aB_bl q.2.1, iU_bl q.2.2⟩, iU_rv hr_h, fun U hU hW => ⟨rfl, aB_mv hk hK hU hW, iU_mvH hr_h hU hW⟩⟩ rfl rfl hl.1 rfl (lv_room (Nat.le_of_ble_eq_true rfl)) dX0_ofFour_55 ⟨Nat.le_of_ble_eq_true rfl, Nat.le_of_ble_eq_true rfl⟩) hS (fun q _ h => hFc q h) hFc (fun u_55 a_55 t H1 locs ht hvm hw1 hB hz1 hk1 hS1 => ?_)
  obtain ⟨hP, -, hD1⟩ := hB
  rw [ht] at hP
  have hD := hD1.weaken (fun k q _ h => hFc q.1 h)
  have hS := hS1
  generalize H1 = H at hP hS ⊢
  have hf : f_X0_ofFour h_k h_lo h_hi x1 x2 x3 x4 = u_55 := hf.trans (congrArg (fun z => z) hw1.symm)
  refine W.widen (k := 1) (n := 3) (Nat.le_of_ble_eq_true rfl) (Nat.le_of_ble_eq_true rfl) ?_
  exact W.aret (v := .ref a_55) hx hb hr (Or.inl ⟨_, rfl⟩) (Or.inr ⟨_, rfl⟩) (fun t ht hW => ⟨⟨u_55, a_55, rfl, hf.symm, by rw [ht]; exact hP, va_K.moved hW.alike hK, hD⟩, hS.F ht⟩) hS.2.2 dX0_ofFour_58
def f_X0_acted_1 (h_k : Nat) (h_lo : Int64) (h_hi : Int64) (x1 : Int32) (k_lo : Int64) (k_hi : Int64) : Int64 × Int64 := if x1 = (4 : Int32) then ((f_X1_lesser h_k h_lo k_lo), (f_X1_greater h_k h_hi k_hi)) else ((f_X1_greater h_k h_lo k_lo), (f_X1_lesser h_k h_hi k_hi))
def f_X0_acted_2 (h_k : Nat) (h_lo : Int64) (h_hi : Int64) (x1 : Int32) (k_lo : Int64) (k_hi : Int64) : Int64 × Int64 := if x1 = (3 : Int32) then (f_X0_ofFour h_k h_lo h_hi (f_X0_quotient h_k h_lo h_hi h_lo k_lo) (f_X0_quotient h_k h_lo h_hi h_lo k_hi) (f_X0_quotient h_k h_lo h_hi h_hi k_lo) (f_X0_quotient h_k h_lo h_hi h_hi k_hi)) else (f_X0_acted_1 h_k h_lo h_hi x1 k_lo k_hi)
def f_X0_acted_3 (h_k : Nat) (h_lo : Int64) (h_hi : Int64) (x1 : Int32) (k_lo : Int64) (k_hi : Int64) : Int64 × Int64 := if x1 = (2 : Int32) then (f_X0_ofFour h_k h_lo h_hi (f_X0_product h_k h_lo h_hi h_lo k_lo) (f_X0_product h_k h_lo h_hi h_lo k_hi) (f_X0_product h_k h_lo h_hi h_hi k_lo) (f_X0_product h_k h_lo h_hi h_hi k_hi)) else (f_X0_acted_2 h_k h_lo h_hi x1 k_lo k_hi)
def f_X0_acted_4 (h_k : Nat) (h_lo : Int64) (h_hi : Int64) (x1 : Int32) (k_lo : Int64) (k_hi : Int64) : Int64 × Int64 := if x1 = (1 : Int32) then (f_X0_outward h_k h_lo h_hi (f_X2_minus h_k h_lo k_hi) (f_X2_minus h_k h_hi k_lo)) else (f_X0_acted_3 h_k h_lo h_hi x1 k_lo k_hi)
def f_X0_acted_5 (h_k : Nat) (h_lo : Int64) (h_hi : Int64) (x1 : Int32) (k_lo : Int64) (k_hi : Int64) : Int64 × Int64 := if x1 = (0 : Int32) then (f_X0_outward h_k h_lo h_hi (f_X2_plus h_k h_lo k_lo) (f_X2_plus h_k h_hi k_hi)) else (f_X0_acted_4 h_k h_lo h_hi x1 k_lo k_hi)
def f_X0_acted (h_k : Nat) (h_lo : Int64) (h_hi : Int64) (x1 : Int32) (k_k : Nat) (k_lo : Int64) (k_hi : Int64) : Int64 × Int64 := (f_X0_acted_5 h_k h_lo h_hi x1 k_lo k_hi)
def zX0_acted : List Cond := .code yX0_acted cX0_acted 3 (some (.object "ReckonBench$Interval")) :: zall
theorem iX0_acted : MWv RX0 yX0_acted (.code yX0_acted cX0_acted 3 (some (.object "ReckonBench$Interval"))) := ⟨(zin__r14 (.instanceMethod yX0_acted) (List.mem_of_getElem? (i := 16) rfl)), (zin__r14 (.selects RX0 yX0_acted yX0_acted) (List.mem_of_getElem? (i := 17) rfl)), (zin__r13 (.initialized RX0) (List.mem_of_getElem? (i := 8) rfl)), (zin__r14 (.code yX0_acted cX0_acted 3 (some (.object "ReckonBench$Interval"))) (List.mem_of_getElem? (i := 18) rfl))⟩
set_option maxHeartbeats 4000000 in
set_option maxRecDepth 100000 in
theorem c_X0_acted (l : Launch) (dC : Nat → ClassId) (dI : Nat → Nat → Nat) (ad : Nat → Nat) (h h_k : Nat) (h_h_k : h_k < 2) (h_lo h_hi : Int64) (x1 : Int32) (k k_k : Nat) (h_k_k : k_k < 2) (k_lo k_hi : Int64) (sz : Nat) : Met l yX0_acted zX0_acted ({ frames := 6, cells := 1, slots := 3, locals := 156 }) (va_Pc [.ref h, .int x1, .ref k] (fun U => aB dC dI ad sz U ∧ iU h ad h_k h_lo h_hi U ∧ iU k ad k_k k_lo k_hi U)) (va_Qr (fun u => u = f_X0_acted h_k h_lo h_hi x1 k_k k_lo k_hi) (aE dC dI ad h_k (va_A [] sz)) (va_A [] sz)) 1 3 (va_A [] sz) := by
  refine Met.ofW (cc := cX0_acted) (maxL := 3) (ret := (some (.object "ReckonBench$Interval"))) (by decide) rfl ?_
  intro p e s m args below meth c s₁ B hml hv
  obtain ⟨rfl, ⟨hsz, hK, hk⟩, hr_h, hr_k⟩ := hv
  have hx := B.exec
  have hb := B.bytes
  have hr := B.returns
  have hts : ∀ w ∈ zall, w.before _ s = true := fun w h => atoms_spec (ws := zX0_acted) B.pre w (List.mem_cons_of_mem _ h)
  have hown : s.vm.findClass RX0 = some m.cls := findClass_of_methodNamed B.named
  have hlocks := B.notSynchronized
  subst hsz
  have hP : va_P (dC, dI) vwCl [] s.heap := fun k q h => by simp at h
  have hD : va_D (va_A [] s.heap.size) [] := ⟨fun i j p q h => by simp at h, fun k q h => by simp at h⟩
  have hkA := kA_new hk
  have hiA_h := iH_new0 hr_h
  have hiA_k := iH_new0 hr_k
  generalize hAe : va_A [] s.heap.size = A at hD hkA hiA_h hiA_k ⊢
  have hA : ∀ q : Nat, s.heap.size ≤ q → A q := fun q h => by rw [← hAe]; exact Or.inr h
  have hS : va_S A s.heap s.heap [] := va_S.rf
  have hk := kA_at hkA hS
  have hr_h := iA_at hiA_h hS
  have hr_k := iA_at hiA_k hS
  have hl := lv_entry ([.ref h, .int x1, .ref k]) (n := 3) (Nat.le_of_ble_eq_true rfl)
  rw [lg_entry_eq]
  generalize (lg_sl ([.ref h, .int x1, .ref k]) ++ List.replicate (3 - (lg_sl ([.ref h, .int x1, .ref k])).length) Slot.unset).toArray = ls at hl ⊢
  have hl : lv_has ls 3 [(0, .ref h), (1, .int x1), (2, .ref k)] := hl
  have hf : f_X0_acted h_k h_lo h_hi x1 k_k k_lo k_hi = (f_X0_acted_5 h_k h_lo h_hi x1 k_lo k_hi) := rfl
  refine lv_iload_n hx hb dX0_acted_0 rfl (lv_at hl 1 rfl) ?_
  rcases Decidable.em (x1 = (0 : Int32)) with c_1_0 | c_1_0
  · have hf : f_X0_acted h_k h_lo h_hi x1 k_k k_lo k_hi = (f_X0_outward h_k h_lo h_hi (f_X2_plus h_k h_lo k_lo) (f_X2_plus h_k h_hi k_hi)) := hf.trans (if_pos c_1_0)
    refine lv_tableIn (tgt := 36) (off := 35) hx hb dX0_acted_1 (by rw [c_1_0]; decide) (by rw [c_1_0]; decide) (by rw [c_1_0]; rfl) (by decide) ?_
    refine lv_aload_n hx hb dX0_acted_36 rfl (lv_at hl 0 rfl) ?_
    refine lv_aload_n hx hb dX0_acted_37 rfl (lv_at hl 0 rfl) ?_
    refine gf_H hx hb hr_h.2.1 hown (hts _ (zin__r13 (.fieldLink RX0 9 "ReckonBench$Interval" "kind" "LReckonBench$Kind;") (List.mem_of_getElem? (i := 13) rfl))) (fun _ h9 => h9) dX0_acted_38 ?_
    refine lv_aload_n hx hb dX0_acted_41 rfl (lv_at hl 0 rfl) ?_
    refine gf_H hx hb hr_h.2.2.1 hown (hts _ (zin__r13 (.fieldLink RX0 13 "ReckonBench$Interval" "low" "J") (List.mem_of_getElem? (i := 14) rfl))) (fun _ h9 => h9) dX0_acted_42 ?_
    refine lv_aload_n hx hb dX0_acted_45 rfl (lv_at hl 2 rfl) ?_
    refine gf_H hx hb hr_k.2.2.1 hown (hts _ (zin__r13 (.fieldLink RX0 13 "ReckonBench$Interval" "low" "J") (List.mem_of_getElem? (i := 14) rfl))) (fun _ h9 => h9) dX0_acted_46 ?_
    refine vp_callSl (va_Run.run (va_runS (As := [.ref (ad h_k), .long h_lo, .long k_lo]) (rest := [.ref h]) ⟨hx, hb, hml, hown, hts⟩ (c_X2_plus l ad h_k h_h_k h_lo k_lo) (va_cwS 3 hts (gS iX2_plus (zin__r14 (.methodLink RX0 39 yX2_plus) (List.mem_of_getElem? (i := 19) rfl))) rfl rfl rfl (by decide +kernel) ⟨Nat.le_of_ble_eq_true rfl, Nat.le_of_ble_eq_true rfl⟩) ⟨fun a U g mk q => ⟨q.1, kU_bl q.2⟩, fun U hU hW => ⟨rfl, kU_mvH hk hU hW⟩⟩ rfl rfl hl.1 rfl (lv_room (Nat.le_of_ble_eq_true rfl)) dX0_acted_49 ⟨Nat.le_of_ble_eq_true rfl, Nat.le_of_ble_eq_true rfl⟩)) (fun r_49 hr_49 => ?_)
    subst hr_49
    refine lv_aload_n hx hb dX0_acted_52 rfl (lv_at hl 0 rfl) ?_
    refine gf_H hx hb hr_h.2.1 hown (hts _ (zin__r13 (.fieldLink RX0 9 "ReckonBench$Interval" "kind" "LReckonBench$Kind;") (List.mem_of_getElem? (i := 13) rfl))) (fun _ h9 => h9) dX0_acted_53 ?_
    refine lv_aload_n hx hb dX0_acted_56 rfl (lv_at hl 0 rfl) ?_
    refine gf_H hx hb hr_h.2.2.2 hown (hts _ (zin__r13 (.fieldLink RX0 17 "ReckonBench$Interval" "high" "J") (List.mem_of_getElem? (i := 15) rfl))) (fun _ h9 => h9) dX0_acted_57 ?_
    refine lv_aload_n hx hb dX0_acted_60 rfl (lv_at hl 2 rfl) ?_
    refine gf_H hx hb hr_k.2.2.2 hown (hts _ (zin__r13 (.fieldLink RX0 17 "ReckonBench$Interval" "high" "J") (List.mem_of_getElem? (i := 15) rfl))) (fun _ h9 => h9) dX0_acted_61 ?_
    refine vp_callSl (va_Run.run (va_runS (As := [.ref (ad h_k), .long h_hi, .long k_hi]) (rest := [.long (f_X2_plus h_k h_lo k_lo), .ref h]) ⟨hx, hb, hml, hown, hts⟩ (c_X2_plus l ad h_k h_h_k h_hi k_hi) (va_cwS 3 hts (gS iX2_plus (zin__r14 (.methodLink RX0 39 yX2_plus) (List.mem_of_getElem? (i := 19) rfl))) rfl rfl rfl (by decide +kernel) ⟨Nat.le_of_ble_eq_true rfl, Nat.le_of_ble_eq_true rfl⟩) ⟨fun a U g mk q => ⟨q.1, kU_bl q.2⟩, fun U hU hW => ⟨rfl, kU_mvH hk hU hW⟩⟩ rfl rfl hl.1 rfl (lv_room (Nat.le_of_ble_eq_true rfl)) dX0_acted_64 ⟨Nat.le_of_ble_eq_true rfl, Nat.le_of_ble_eq_true rfl⟩)) (fun r_64 hr_64 => ?_)
    subst hr_64
    have hFc : ∀ q, va_A [] s.heap.size q → A q := fun q h => hA q (Nat.le_trans hS.1 (va_nil h))
    refine va_callr (va_runV (As := [.long (f_X2_plus h_k h_lo k_lo), .long (f_X2_plus h_k h_hi k_hi)]) (rest := []) ⟨hx, hb, hml, hown, hts⟩ (c_X0_outward l dC dI ad h h_k h_h_k h_lo h_hi (f_X2_plus h_k h_lo k_lo) (f_X2_plus h_k h_hi k_hi) s.heap.size) (cwV 2 hts (gV iX0_outward (zin__r14 (.methodLink RX0 45 yX0_outward) (List.mem_of_getElem? (i := 20) rfl))) rfl rfl rfl (by decide +kernel) ⟨Nat.le_of_ble_eq_true rfl, Nat.le_of_ble_eq_true rfl⟩) ⟨fun a U g mk q => ⟨q.1, aB_bl q.2.1, iU_bl q.2.2⟩, iU_rv hr_h, fun U hU hW => ⟨rfl, aB_mv hk hK hU hW, iU_mvH hr_h hU hW⟩⟩ rfl rfl hl.1 rfl (lv_room (Nat.le_of_ble_eq_true rfl)) dX0_acted_67 ⟨Nat.le_of_ble_eq_true rfl, Nat.le_of_ble_eq_true rfl⟩) hS (fun q _ h => hFc q h) hFc (fun u_67 a_67 t H1 locs ht hvm hw1 hB hz1 hk1 hS1 => ?_)
    obtain ⟨hP, -, hD1⟩ := hB
    rw [ht] at hP
    have hD := hD1.weaken (fun k q _ h => hFc q.1 h)
    have hS := hS1
    generalize H1 = H at hP hS ⊢
    have hf : f_X0_acted h_k h_lo h_hi x1 k_k k_lo k_hi = u_67 := hf.trans (congrArg (fun z => z) hw1.symm)
    refine W.widen (k := 1) (n := 3) (Nat.le_of_ble_eq_true rfl) (Nat.le_of_ble_eq_true rfl) ?_
    exact W.aret (v := .ref a_67) hx hb hr (Or.inl ⟨_, rfl⟩) (Or.inr ⟨_, rfl⟩) (fun t ht hW => ⟨⟨u_67, a_67, rfl, hf.symm, by rw [ht]; exact hP, va_K.moved hW.alike hK, hD⟩, hS.F ht⟩) hS.2.2 dX0_acted_70
  have hf : f_X0_acted h_k h_lo h_hi x1 k_k k_lo k_hi = (f_X0_acted_4 h_k h_lo h_hi x1 k_lo k_hi) := hf.trans (if_neg c_1_0)
  rcases Decidable.em (x1 = (1 : Int32)) with c_1_1 | c_1_1
  · have hf : f_X0_acted h_k h_lo h_hi x1 k_k k_lo k_hi = (f_X0_outward h_k h_lo h_hi (f_X2_minus h_k h_lo k_hi) (f_X2_minus h_k h_hi k_lo)) := hf.trans (if_pos c_1_1)
    refine lv_tableIn (tgt := 71) (off := 70) hx hb dX0_acted_1 (by rw [c_1_1]; decide) (by rw [c_1_1]; decide) (by rw [c_1_1]; rfl) (by decide) ?_
    refine lv_aload_n hx hb dX0_acted_71 rfl (lv_at hl 0 rfl) ?_
    refine lv_aload_n hx hb dX0_acted_72 rfl (lv_at hl 0 rfl) ?_
    refine gf_H hx hb hr_h.2.1 hown (hts _ (zin__r13 (.fieldLink RX0 9 "ReckonBench$Interval" "kind" "LReckonBench$Kind;") (List.mem_of_getElem? (i := 13) rfl))) (fun _ h9 => h9) dX0_acted_73 ?_
    refine lv_aload_n hx hb dX0_acted_76 rfl (lv_at hl 0 rfl) ?_
    refine gf_H hx hb hr_h.2.2.1 hown (hts _ (zin__r13 (.fieldLink RX0 13 "ReckonBench$Interval" "low" "J") (List.mem_of_getElem? (i := 14) rfl))) (fun _ h9 => h9) dX0_acted_77 ?_
    refine lv_aload_n hx hb dX0_acted_80 rfl (lv_at hl 2 rfl) ?_
    refine gf_H hx hb hr_k.2.2.2 hown (hts _ (zin__r13 (.fieldLink RX0 17 "ReckonBench$Interval" "high" "J") (List.mem_of_getElem? (i := 15) rfl))) (fun _ h9 => h9) dX0_acted_81 ?_
    refine vp_callSl (va_Run.run (va_runS (As := [.ref (ad h_k), .long h_lo, .long k_hi]) (rest := [.ref h]) ⟨hx, hb, hml, hown, hts⟩ (c_X2_minus l ad h_k h_h_k h_lo k_hi) (va_cwS 3 hts (gS iX2_minus (zin__r15 (.methodLink RX0 49 yX2_minus) (List.mem_of_getElem? (i := 14) rfl))) rfl rfl rfl (by decide +kernel) ⟨Nat.le_of_ble_eq_true rfl, Nat.le_of_ble_eq_true rfl⟩) ⟨fun a U g mk q => ⟨q.1, kU_bl q.2⟩, fun U hU hW => ⟨rfl, kU_mvH hk hU hW⟩⟩ rfl rfl hl.1 rfl (lv_room (Nat.le_of_ble_eq_true rfl)) dX0_acted_84 ⟨Nat.le_of_ble_eq_true rfl, Nat.le_of_ble_eq_true rfl⟩)) (fun r_84 hr_84 => ?_)
    subst hr_84
    refine lv_aload_n hx hb dX0_acted_87 rfl (lv_at hl 0 rfl) ?_
    refine gf_H hx hb hr_h.2.1 hown (hts _ (zin__r13 (.fieldLink RX0 9 "ReckonBench$Interval" "kind" "LReckonBench$Kind;") (List.mem_of_getElem? (i := 13) rfl))) (fun _ h9 => h9) dX0_acted_88 ?_
    refine lv_aload_n hx hb dX0_acted_91 rfl (lv_at hl 0 rfl) ?_
    refine gf_H hx hb hr_h.2.2.2 hown (hts _ (zin__r13 (.fieldLink RX0 17 "ReckonBench$Interval" "high" "J") (List.mem_of_getElem? (i := 15) rfl))) (fun _ h9 => h9) dX0_acted_92 ?_
    refine lv_aload_n hx hb dX0_acted_95 rfl (lv_at hl 2 rfl) ?_
    refine gf_H hx hb hr_k.2.2.1 hown (hts _ (zin__r13 (.fieldLink RX0 13 "ReckonBench$Interval" "low" "J") (List.mem_of_getElem? (i := 14) rfl))) (fun _ h9 => h9) dX0_acted_96 ?_
    refine vp_callSl (va_Run.run (va_runS (As := [.ref (ad h_k), .long h_hi, .long k_lo]) (rest := [.long (f_X2_minus h_k h_lo k_hi), .ref h]) ⟨hx, hb, hml, hown, hts⟩ (c_X2_minus l ad h_k h_h_k h_hi k_lo) (va_cwS 3 hts (gS iX2_minus (zin__r15 (.methodLink RX0 49 yX2_minus) (List.mem_of_getElem? (i := 14) rfl))) rfl rfl rfl (by decide +kernel) ⟨Nat.le_of_ble_eq_true rfl, Nat.le_of_ble_eq_true rfl⟩) ⟨fun a U g mk q => ⟨q.1, kU_bl q.2⟩, fun U hU hW => ⟨rfl, kU_mvH hk hU hW⟩⟩ rfl rfl hl.1 rfl (lv_room (Nat.le_of_ble_eq_true rfl)) dX0_acted_99 ⟨Nat.le_of_ble_eq_true rfl, Nat.le_of_ble_eq_true rfl⟩)) (fun r_99 hr_99 => ?_)
    subst hr_99
    have hFc : ∀ q, va_A [] s.heap.size q → A q := fun q h => hA q (Nat.le_trans hS.1 (va_nil h))
    refine va_callr (va_runV (As := [.long (f_X2_minus h_k h_lo k_hi), .long (f_X2_minus h_k h_hi k_lo)]) (rest := []) ⟨hx, hb, hml, hown, hts⟩ (c_X0_outward l dC dI ad h h_k h_h_k h_lo h_hi (f_X2_minus h_k h_lo k_hi) (f_X2_minus h_k h_hi k_lo) s.heap.size) (cwV 2 hts (gV iX0_outward (zin__r14 (.methodLink RX0 45 yX0_outward) (List.mem_of_getElem? (i := 20) rfl))) rfl rfl rfl (by decide +kernel) ⟨Nat.le_of_ble_eq_true rfl, Nat.le_of_ble_eq_true rfl⟩) ⟨fun a U g mk q => ⟨q.1, aB_bl q.2.1, iU_bl q.2.2⟩, iU_rv hr_h, fun U hU hW => ⟨rfl, aB_mv hk hK hU hW, iU_mvH hr_h hU hW⟩⟩ rfl rfl hl.1 rfl (lv_room (Nat.le_of_ble_eq_true rfl)) dX0_acted_102 ⟨Nat.le_of_ble_eq_true rfl, Nat.le_of_ble_eq_true rfl⟩) hS (fun q _ h => hFc q h) hFc (fun u_102 a_102 t H1 locs ht hvm hw1 hB hz1 hk1 hS1 => ?_)
    obtain ⟨hP, -, hD1⟩ := hB
    rw [ht] at hP
    have hD := hD1.weaken (fun k q _ h => hFc q.1 h)
    have hS := hS1
    generalize H1 = H at hP hS ⊢
    have hf : f_X0_acted h_k h_lo h_hi x1 k_k k_lo k_hi = u_102 := hf.trans (congrArg (fun z => z) hw1.symm)
    refine W.widen (k := 1) (n := 3) (Nat.le_of_ble_eq_true rfl) (Nat.le_of_ble_eq_true rfl) ?_
    exact W.aret (v := .ref a_102) hx hb hr (Or.inl ⟨_, rfl⟩) (Or.inr ⟨_, rfl⟩) (fun t ht hW => ⟨⟨u_102, a_102, rfl, hf.symm, by rw [ht]; exact hP, va_K.moved hW.alike hK, hD⟩, hS.F ht⟩) hS.2.2 dX0_acted_105
  have hf : f_X0_acted h_k h_lo h_hi x1 k_k k_lo k_hi = (f_X0_acted_3 h_k h_lo h_hi x1 k_lo k_hi) := hf.trans (if_neg c_1_1)
  rcases Decidable.em (x1 = (2 : Int32)) with c_1_2 | c_1_2
  · have hf : f_X0_acted h_k h_lo h_hi x1 k_k k_lo k_hi = (f_X0_ofFour h_k h_lo h_hi (f_X0_product h_k h_lo h_hi h_lo k_lo) (f_X0_product h_k h_lo h_hi h_lo k_hi) (f_X0_product h_k h_lo h_hi h_hi k_lo) (f_X0_product h_k h_lo h_hi h_hi k_hi)) := hf.trans (if_pos c_1_2)
    refine lv_tableIn (tgt := 106) (off := 105) hx hb dX0_acted_1 (by rw [c_1_2]; decide) (by rw [c_1_2]; decide) (by rw [c_1_2]; rfl) (by decide) ?_
    refine lv_aload_n hx hb dX0_acted_106 rfl (lv_at hl 0 rfl) ?_
    refine lv_aload_n hx hb dX0_acted_107 rfl (lv_at hl 0 rfl) ?_
    refine lv_aload_n hx hb dX0_acted_108 rfl (lv_at hl 0 rfl) ?_
    refine gf_H hx hb hr_h.2.2.1 hown (hts _ (zin__r13 (.fieldLink RX0 13 "ReckonBench$Interval" "low" "J") (List.mem_of_getElem? (i := 14) rfl))) (fun _ h9 => h9) dX0_acted_109 ?_
    refine lv_aload_n hx hb dX0_acted_112 rfl (lv_at hl 2 rfl) ?_
    refine gf_H hx hb hr_k.2.2.1 hown (hts _ (zin__r13 (.fieldLink RX0 13 "ReckonBench$Interval" "low" "J") (List.mem_of_getElem? (i := 14) rfl))) (fun _ h9 => h9) dX0_acted_113 ?_
    refine vp_callSl (va_Run.run (va_runV (As := [.long h_lo, .long k_lo]) (rest := [.ref h]) ⟨hx, hb, hml, hown, hts⟩ (c_X0_product l ad h h_k h_h_k h_lo h_hi h_lo k_lo) (cwV 2 hts (gV iX0_product (zin__r15 (.methodLink RX0 52 yX0_product) (List.mem_of_getElem? (i := 15) rfl))) rfl rfl rfl (by decide +kernel) ⟨Nat.le_of_ble_eq_true rfl, Nat.le_of_ble_eq_true rfl⟩) ⟨fun a U g mk q => ⟨q.1, kU_bl q.2.1, iU_bl q.2.2⟩, (iU_rv hr_h), fun U hU hW => ⟨rfl, ⟨kU_mvH hk hU hW, iU_mvH hr_h hU hW⟩⟩⟩ rfl rfl hl.1 rfl (lv_room (Nat.le_of_ble_eq_true rfl)) dX0_acted_116 ⟨Nat.le_of_ble_eq_true rfl, Nat.le_of_ble_eq_true rfl⟩)) (fun r_116 hr_116 => ?_)
    subst hr_116
    refine lv_aload_n hx hb dX0_acted_119 rfl (lv_at hl 0 rfl) ?_
    refine lv_aload_n hx hb dX0_acted_120 rfl (lv_at hl 0 rfl) ?_
    refine gf_H hx hb hr_h.2.2.1 hown (hts _ (zin__r13 (.fieldLink RX0 13 "ReckonBench$Interval" "low" "J") (List.mem_of_getElem? (i := 14) rfl))) (fun _ h9 => h9) dX0_acted_121 ?_
    refine lv_aload_n hx hb dX0_acted_124 rfl (lv_at hl 2 rfl) ?_
    refine gf_H hx hb hr_k.2.2.2 hown (hts _ (zin__r13 (.fieldLink RX0 17 "ReckonBench$Interval" "high" "J") (List.mem_of_getElem? (i := 15) rfl))) (fun _ h9 => h9) dX0_acted_125 ?_
    refine vp_callSl (va_Run.run (va_runV (As := [.long h_lo, .long k_hi]) (rest := [.long (f_X0_product h_k h_lo h_hi h_lo k_lo), .ref h]) ⟨hx, hb, hml, hown, hts⟩ (c_X0_product l ad h h_k h_h_k h_lo h_hi h_lo k_hi) (cwV 2 hts (gV iX0_product (zin__r15 (.methodLink RX0 52 yX0_product) (List.mem_of_getElem? (i := 15) rfl))) rfl rfl rfl (by decide +kernel) ⟨Nat.le_of_ble_eq_true rfl, Nat.le_of_ble_eq_true rfl⟩) ⟨fun a U g mk q => ⟨q.1, kU_bl q.2.1, iU_bl q.2.2⟩, (iU_rv hr_h), fun U hU hW => ⟨rfl, ⟨kU_mvH hk hU hW, iU_mvH hr_h hU hW⟩⟩⟩ rfl rfl hl.1 rfl (lv_room (Nat.le_of_ble_eq_true rfl)) dX0_acted_128 ⟨Nat.le_of_ble_eq_true rfl, Nat.le_of_ble_eq_true rfl⟩)) (fun r_128 hr_128 => ?_)
    subst hr_128
    refine lv_aload_n hx hb dX0_acted_131 rfl (lv_at hl 0 rfl) ?_
    refine lv_aload_n hx hb dX0_acted_132 rfl (lv_at hl 0 rfl) ?_
    refine gf_H hx hb hr_h.2.2.2 hown (hts _ (zin__r13 (.fieldLink RX0 17 "ReckonBench$Interval" "high" "J") (List.mem_of_getElem? (i := 15) rfl))) (fun _ h9 => h9) dX0_acted_133 ?_
    refine lv_aload_n hx hb dX0_acted_136 rfl (lv_at hl 2 rfl) ?_
    refine gf_H hx hb hr_k.2.2.1 hown (hts _ (zin__r13 (.fieldLink RX0 13 "ReckonBench$Interval" "low" "J") (List.mem_of_getElem? (i := 14) rfl))) (fun _ h9 => h9) dX0_acted_137 ?_
    refine vp_callSl (va_Run.run (va_runV (As := [.long h_hi, .long k_lo]) (rest := [.long (f_X0_product h_k h_lo h_hi h_lo k_hi), .long (f_X0_product h_k h_lo h_hi h_lo k_lo), .ref h]) ⟨hx, hb, hml, hown, hts⟩ (c_X0_product l ad h h_k h_h_k h_lo h_hi h_hi k_lo) (cwV 2 hts (gV iX0_product (zin__r15 (.methodLink RX0 52 yX0_product) (List.mem_of_getElem? (i := 15) rfl))) rfl rfl rfl (by decide +kernel) ⟨Nat.le_of_ble_eq_true rfl, Nat.le_of_ble_eq_true rfl⟩) ⟨fun a U g mk q => ⟨q.1, kU_bl q.2.1, iU_bl q.2.2⟩, (iU_rv hr_h), fun U hU hW => ⟨rfl, ⟨kU_mvH hk hU hW, iU_mvH hr_h hU hW⟩⟩⟩ rfl rfl hl.1 rfl (lv_room (Nat.le_of_ble_eq_true rfl)) dX0_acted_140 ⟨Nat.le_of_ble_eq_true rfl, Nat.le_of_ble_eq_true rfl⟩)) (fun r_140 hr_140 => ?_)
    subst hr_140
    refine lv_aload_n hx hb dX0_acted_143 rfl (lv_at hl 0 rfl) ?_
    refine lv_aload_n hx hb dX0_acted_144 rfl (lv_at hl 0 rfl) ?_
    refine gf_H hx hb hr_h.2.2.2 hown (hts _ (zin__r13 (.fieldLink RX0 17 "ReckonBench$Interval" "high" "J") (List.mem_of_getElem? (i := 15) rfl))) (fun _ h9 => h9) dX0_acted_145 ?_
    refine lv_aload_n hx hb dX0_acted_148 rfl (lv_at hl 2 rfl) ?_
    refine gf_H hx hb hr_k.2.2.2 hown (hts _ (zin__r13 (.fieldLink RX0 17 "ReckonBench$Interval" "high" "J") (List.mem_of_getElem? (i := 15) rfl))) (fun _ h9 => h9) dX0_acted_149 ?_
    refine vp_callSl (va_Run.run (va_runV (As := [.long h_hi, .long k_hi]) (rest := [.long (f_X0_product h_k h_lo h_hi h_hi k_lo), .long (f_X0_product h_k h_lo h_hi h_lo k_hi), .long (f_X0_product h_k h_lo h_hi h_lo k_lo), .ref h]) ⟨hx, hb, hml, hown, hts⟩ (c_X0_product l ad h h_k h_h_k h_lo h_hi h_hi k_hi) (cwV 2 hts (gV iX0_product (zin__r15 (.methodLink RX0 52 yX0_product) (List.mem_of_getElem? (i := 15) rfl))) rfl rfl rfl (by decide +kernel) ⟨Nat.le_of_ble_eq_true rfl, Nat.le_of_ble_eq_true rfl⟩) ⟨fun a U g mk q => ⟨q.1, kU_bl q.2.1, iU_bl q.2.2⟩, (iU_rv hr_h), fun U hU hW => ⟨rfl, ⟨kU_mvH hk hU hW, iU_mvH hr_h hU hW⟩⟩⟩ rfl rfl hl.1 rfl (lv_room (Nat.le_of_ble_eq_true rfl)) dX0_acted_152 ⟨Nat.le_of_ble_eq_true rfl, Nat.le_of_ble_eq_true rfl⟩)) (fun r_152 hr_152 => ?_)
    subst hr_152
    have hFc : ∀ q, va_A [] s.heap.size q → A q := fun q h => hA q (Nat.le_trans hS.1 (va_nil h))
    refine va_callr (va_runV (As := [.long (f_X0_product h_k h_lo h_hi h_lo k_lo), .long (f_X0_product h_k h_lo h_hi h_lo k_hi), .long (f_X0_product h_k h_lo h_hi h_hi k_lo), .long (f_X0_product h_k h_lo h_hi h_hi k_hi)]) (rest := []) ⟨hx, hb, hml, hown, hts⟩ (c_X0_ofFour l dC dI ad h h_k h_h_k h_lo h_hi (f_X0_product h_k h_lo h_hi h_lo k_lo) (f_X0_product h_k h_lo h_hi h_lo k_hi) (f_X0_product h_k h_lo h_hi h_hi k_lo) (f_X0_product h_k h_lo h_hi h_hi k_hi) s.heap.size) (cwV 4 hts (gV iX0_ofFour (zin__r16 (.methodLink RX0 56 yX0_ofFour) (List.mem_of_getElem? (i := 0) rfl))) rfl rfl rfl (by decide +kernel) ⟨Nat.le_of_ble_eq_true rfl, Nat.le_of_ble_eq_true rfl⟩) ⟨fun a U g mk q => ⟨q.1, aB_bl q.2.1, iU_bl q.2.2⟩, iU_rv hr_h, fun U hU hW => ⟨rfl, aB_mv hk hK hU hW, iU_mvH hr_h hU hW⟩⟩ rfl rfl hl.1 rfl (lv_room (Nat.le_of_ble_eq_true rfl)) dX0_acted_155 ⟨Nat.le_of_ble_eq_true rfl, Nat.le_of_ble_eq_true rfl⟩) hS (fun q _ h => hFc q h) hFc (fun u_155 a_155 t H1 locs ht hvm hw1 hB hz1 hk1 hS1 => ?_)
    obtain ⟨hP, -, hD1⟩ := hB
    rw [ht] at hP
    have hD := hD1.weaken (fun k q _ h => hFc q.1 h)
    have hS := hS1
    generalize H1 = H at hP hS ⊢
    have hf : f_X0_acted h_k h_lo h_hi x1 k_k k_lo k_hi = u_155 := hf.trans (congrArg (fun z => z) hw1.symm)
    refine W.widen (k := 1) (n := 3) (Nat.le_of_ble_eq_true rfl) (Nat.le_of_ble_eq_true rfl) ?_
    exact W.aret (v := .ref a_155) hx hb hr (Or.inl ⟨_, rfl⟩) (Or.inr ⟨_, rfl⟩) (fun t ht hW => ⟨⟨u_155, a_155, rfl, hf.symm, by rw [ht]; exact hP, va_K.moved hW.alike hK, hD⟩, hS.F ht⟩) hS.2.2 dX0_acted_158
  have hf : f_X0_acted h_k h_lo h_hi x1 k_k k_lo k_hi = (f_X0_acted_2 h_k h_lo h_hi x1 k_lo k_hi) := hf.trans (if_neg c_1_2)
  rcases Decidable.em (x1 = (3 : Int32)) with c_1_3 | c_1_3
  · have hf : f_X0_acted h_k h_lo h_hi x1 k_k k_lo k_hi = (f_X0_ofFour h_k h_lo h_hi (f_X0_quotient h_k h_lo h_hi h_lo k_lo) (f_X0_quotient h_k h_lo h_hi h_lo k_hi) (f_X0_quotient h_k h_lo h_hi h_hi k_lo) (f_X0_quotient h_k h_lo h_hi h_hi k_hi)) := hf.trans (if_pos c_1_3)
    refine lv_tableIn (tgt := 159) (off := 158) hx hb dX0_acted_1 (by rw [c_1_3]; decide) (by rw [c_1_3]; decide) (by rw [c_1_3]; rfl) (by decide) ?_
    refine lv_aload_n hx hb dX0_acted_159 rfl (lv_at hl 0 rfl) ?_
    refine lv_aload_n hx hb dX0_acted_160 rfl (lv_at hl 0 rfl) ?_
    refine lv_aload_n hx hb dX0_acted_161 rfl (lv_at hl 0 rfl) ?_
    refine gf_H hx hb hr_h.2.2.1 hown (hts _ (zin__r13 (.fieldLink RX0 13 "ReckonBench$Interval" "low" "J") (List.mem_of_getElem? (i := 14) rfl))) (fun _ h9 => h9) dX0_acted_162 ?_
    refine lv_aload_n hx hb dX0_acted_165 rfl (lv_at hl 2 rfl) ?_
    refine gf_H hx hb hr_k.2.2.1 hown (hts _ (zin__r13 (.fieldLink RX0 13 "ReckonBench$Interval" "low" "J") (List.mem_of_getElem? (i := 14) rfl))) (fun _ h9 => h9) dX0_acted_166 ?_
    refine vp_callSl (va_Run.run (va_runV (As := [.long h_lo, .long k_lo]) (rest := [.ref h]) ⟨hx, hb, hml, hown, hts⟩ (c_X0_quotient l ad h h_k h_h_k h_lo h_hi h_lo k_lo) (cwV 2 hts (gV iX0_quotient (zin__r16 (.methodLink RX0 60 yX0_quotient) (List.mem_of_getElem? (i := 6) rfl))) rfl rfl rfl (by decide +kernel) ⟨Nat.le_of_ble_eq_true rfl, Nat.le_of_ble_eq_true rfl⟩) ⟨fun a U g mk q => ⟨q.1, kU_bl q.2.1, iU_bl q.2.2⟩, (iU_rv hr_h), fun U hU hW => ⟨rfl, ⟨kU_mvH hk hU hW, iU_mvH hr_h hU hW⟩⟩⟩ rfl rfl hl.1 rfl (lv_room (Nat.le_of_ble_eq_true rfl)) dX0_acted_169 ⟨Nat.le_of_ble_eq_true rfl, Nat.le_of_ble_eq_true rfl⟩)) (fun r_169 hr_169 => ?_)
    subst hr_169
    refine lv_aload_n hx hb dX0_acted_172 rfl (lv_at hl 0 rfl) ?_
    refine lv_aload_n hx hb dX0_acted_173 rfl (lv_at hl 0 rfl) ?_
    refine gf_H hx hb hr_h.2.2.1 hown (hts _ (zin__r13 (.fieldLink RX0 13 "ReckonBench$Interval" "low" "J") (List.mem_of_getElem? (i := 14) rfl))) (fun _ h9 => h9) dX0_acted_174 ?_
    refine lv_aload_n hx hb dX0_acted_177 rfl (lv_at hl 2 rfl) ?_
    refine gf_H hx hb hr_k.2.2.2 hown (hts _ (zin__r13 (.fieldLink RX0 17 "ReckonBench$Interval" "high" "J") (List.mem_of_getElem? (i := 15) rfl))) (fun _ h9 => h9) dX0_acted_178 ?_
    refine vp_callSl (va_Run.run (va_runV (As := [.long h_lo, .long k_hi]) (rest := [.long (f_X0_quotient h_k h_lo h_hi h_lo k_lo), .ref h]) ⟨hx, hb, hml, hown, hts⟩ (c_X0_quotient l ad h h_k h_h_k h_lo h_hi h_lo k_hi) (cwV 2 hts (gV iX0_quotient (zin__r16 (.methodLink RX0 60 yX0_quotient) (List.mem_of_getElem? (i := 6) rfl))) rfl rfl rfl (by decide +kernel) ⟨Nat.le_of_ble_eq_true rfl, Nat.le_of_ble_eq_true rfl⟩) ⟨fun a U g mk q => ⟨q.1, kU_bl q.2.1, iU_bl q.2.2⟩, (iU_rv hr_h), fun U hU hW => ⟨rfl, ⟨kU_mvH hk hU hW, iU_mvH hr_h hU hW⟩⟩⟩ rfl rfl hl.1 rfl (lv_room (Nat.le_of_ble_eq_true rfl)) dX0_acted_181 ⟨Nat.le_of_ble_eq_true rfl, Nat.le_of_ble_eq_true rfl⟩)) (fun r_181 hr_181 => ?_)
    subst hr_181
    refine lv_aload_n hx hb dX0_acted_184 rfl (lv_at hl 0 rfl) ?_
    refine lv_aload_n hx hb dX0_acted_185 rfl (lv_at hl 0 rfl) ?_
    refine gf_H hx hb hr_h.2.2.2 hown (hts _ (zin__r13 (.fieldLink RX0 17 "ReckonBench$Interval" "high" "J") (List.mem_of_getElem? (i := 15) rfl))) (fun _ h9 => h9) dX0_acted_186 ?_
    refine lv_aload_n hx hb dX0_acted_189 rfl (lv_at hl 2 rfl) ?_
    refine gf_H hx hb hr_k.2.2.1 hown (hts _ (zin__r13 (.fieldLink RX0 13 "ReckonBench$Interval" "low" "J") (List.mem_of_getElem? (i := 14) rfl))) (fun _ h9 => h9) dX0_acted_190 ?_
    refine vp_callSl (va_Run.run (va_runV (As := [.long h_hi, .long k_lo]) (rest := [.long (f_X0_quotient h_k h_lo h_hi h_lo k_hi), .long (f_X0_quotient h_k h_lo h_hi h_lo k_lo), .ref h]) ⟨hx, hb, hml, hown, hts⟩ (c_X0_quotient l ad h h_k h_h_k h_lo h_hi h_hi k_lo) (cwV 2 hts (gV iX0_quotient (zin__r16 (.methodLink RX0 60 yX0_quotient) (List.mem_of_getElem? (i := 6) rfl))) rfl rfl rfl (by decide +kernel) ⟨Nat.le_of_ble_eq_true rfl, Nat.le_of_ble_eq_true rfl⟩) ⟨fun a U g mk q => ⟨q.1, kU_bl q.2.1, iU_bl q.2.2⟩, (iU_rv hr_h), fun U hU hW => ⟨rfl, ⟨kU_mvH hk hU hW, iU_mvH hr_h hU hW⟩⟩⟩ rfl rfl hl.1 rfl (lv_room (Nat.le_of_ble_eq_true rfl)) dX0_acted_193 ⟨Nat.le_of_ble_eq_true rfl, Nat.le_of_ble_eq_true rfl⟩)) (fun r_193 hr_193 => ?_)
    subst hr_193
    refine lv_aload_n hx hb dX0_acted_196 rfl (lv_at hl 0 rfl) ?_
    refine lv_aload_n hx hb dX0_acted_197 rfl (lv_at hl 0 rfl) ?_
    refine gf_H hx hb hr_h.2.2.2 hown (hts _ (zin__r13 (.fieldLink RX0 17 "ReckonBench$Interval" "high" "J") (List.mem_of_getElem? (i := 15) rfl))) (fun _ h9 => h9) dX0_acted_198 ?_
    refine lv_aload_n hx hb dX0_acted_201 rfl (lv_at hl 2 rfl) ?_
    refine gf_H hx hb hr_k.2.2.2 hown (hts _ (zin__r13 (.fieldLink RX0 17 "ReckonBench$Interval" "high" "J") (List.mem_of_getElem? (i := 15) rfl))) (fun _ h9 => h9) dX0_acted_202 ?_
    refine vp_callSl (va_Run.run (va_runV (As := [.long h_hi, .long k_hi]) (rest := [.long (f_X0_quotient h_k h_lo h_hi h_hi k_lo), .long (f_X0_quotient h_k h_lo h_hi h_lo k_hi), .long (f_X0_quotient h_k h_lo h_hi h_lo k_lo), .ref h]) ⟨hx, hb, hml, hown, hts⟩ (c_X0_quotient l ad h h_k h_h_k h_lo h_hi h_hi k_hi) (cwV 2 hts (gV iX0_quotient (zin__r16 (.methodLink RX0 60 yX0_quotient) (List.mem_of_getElem? (i := 6) rfl))) rfl rfl rfl (by decide +kernel) ⟨Nat.le_of_ble_eq_true rfl, Nat.le_of_ble_eq_true rfl⟩) ⟨fun a U g mk q => ⟨q.1, kU_bl q.2.1, iU_bl q.2.2⟩, (iU_rv hr_h), fun U hU hW => ⟨rfl, ⟨kU_mvH hk hU hW, iU_mvH hr_h hU hW⟩⟩⟩ rfl rfl hl.1 rfl (lv_room (Nat.le_of_ble_eq_true rfl)) dX0_acted_205 ⟨Nat.le_of_ble_eq_true rfl, Nat.le_of_ble_eq_true rfl⟩)) (fun r_205 hr_205 => ?_)
    subst hr_205
    have hFc : ∀ q, va_A [] s.heap.size q → A q := fun q h => hA q (Nat.le_trans hS.1 (va_nil h))
    refine va_callr (va_runV (As := [.long (f_X0_quotient h_k h_lo h_hi h_lo k_lo), .long (f_X0_quotient h_k h_lo h_hi h_lo k_hi), .long (f_X0_quotient h_k h_lo h_hi h_hi k_lo), .long (f_X0_quotient h_k h_lo h_hi h_hi k_hi)]) (rest := []) ⟨hx, hb, hml, hown, hts⟩ (c_X0_ofFour l dC dI ad h h_k h_h_k h_lo h_hi (f_X0_quotient h_k h_lo h_hi h_lo k_lo) (f_X0_quotient h_k h_lo h_hi h_lo k_hi) (f_X0_quotient h_k h_lo h_hi h_hi k_lo) (f_X0_quotient h_k h_lo h_hi h_hi k_hi) s.heap.size) (cwV 4 hts (gV iX0_ofFour (zin__r16 (.methodLink RX0 56 yX0_ofFour) (List.mem_of_getElem? (i := 0) rfl))) rfl rfl rfl (by decide +kernel) ⟨Nat.le_of_ble_eq_true rfl, Nat.le_of_ble_eq_true rfl⟩) ⟨fun a U g mk q => ⟨q.1, aB_bl q.2.1, iU_bl q.2.2⟩, iU_rv hr_h, fun U hU hW => ⟨rfl, aB_mv hk hK hU hW, iU_mvH hr_h hU hW⟩⟩ rfl rfl hl.1 rfl (lv_room (Nat.le_of_ble_eq_true rfl)) dX0_acted_208 ⟨Nat.le_of_ble_eq_true rfl, Nat.le_of_ble_eq_true rfl⟩) hS (fun q _ h => hFc q h) hFc (fun u_208 a_208 t H1 locs ht hvm hw1 hB hz1 hk1 hS1 => ?_)
    obtain ⟨hP, -, hD1⟩ := hB
    rw [ht] at hP
    have hD := hD1.weaken (fun k q _ h => hFc q.1 h)
    have hS := hS1
    generalize H1 = H at hP hS ⊢
    have hf : f_X0_acted h_k h_lo h_hi x1 k_k k_lo k_hi = u_208 := hf.trans (congrArg (fun z => z) hw1.symm)
    refine W.widen (k := 1) (n := 3) (Nat.le_of_ble_eq_true rfl) (Nat.le_of_ble_eq_true rfl) ?_
    exact W.aret (v := .ref a_208) hx hb hr (Or.inl ⟨_, rfl⟩) (Or.inr ⟨_, rfl⟩) (fun t ht hW => ⟨⟨u_208, a_208, rfl, hf.symm, by rw [ht]; exact hP, va_K.moved hW.alike hK, hD⟩, hS.F ht⟩) hS.2.2 dX0_acted_211
  have hf : f_X0_acted h_k h_lo h_hi x1 k_k k_lo k_hi = (f_X0_acted_1 h_k h_lo h_hi x1 k_lo k_hi) := hf.trans (if_neg c_1_3)
  rcases Decidable.em (x1 = (4 : Int32)) with c_1_4 | c_1_4
  · have hf : f_X0_acted h_k h_lo h_hi x1 k_k k_lo k_hi = ((f_X1_lesser h_k h_lo k_lo), (f_X1_greater h_k h_hi k_hi)) := hf.trans (if_pos c_1_4)
    refine lv_tableIn (tgt := 212) (off := 211) hx hb dX0_acted_1 (by rw [c_1_4]; decide) (by rw [c_1_4]; decide) (by rw [c_1_4]; rfl) (by decide) ?_
    refine va_new (ci := 0) (fs := [.null, .long 0, .long 0]) (C := RX0) (T := TX0) (N := 3) hx hb hts zin_X0 tyX0 tyX0_ok hown (hts _ (zin__r14 (.classLink RX0 1 RX0) (List.mem_of_getElem? (i := 5) rfl))) (hts _ (zin__r13 (.instantiable RX0 3) (List.mem_of_getElem? (i := 7) rfl))) (hts _ (zin__r13 (.initialized RX0) (List.mem_of_getElem? (i := 8) rfl))) hK hP hD hS hA rfl (fun j hj => by rcases (show j = 0 ∨ j = 1 ∨ j = 2 by omega) with rfl | rfl | rfl <;> rfl) (Nat.le_of_ble_eq_true rfl) (Nat.le_of_ble_eq_true rfl) dX0_acted_212 (fun q_212 H hP hD hS => ?_)
    have hP : va_P (dC, dI) vwCl [(q_212, .inr (0, [.null, .long 0, .long 0]))] H := hP
    have hD : va_D A [(q_212, .inr (0, [.null, .long 0, .long 0]))] := hD
    have hk := kA_at hkA hS
    have hr_h := iA_at hiA_h hS
    have hr_k := iA_at hiA_k hS
    refine lv_dup hx hb dX0_acted_215 rfl ?_
    refine lv_aload_n hx hb dX0_acted_216 rfl (lv_at hl 0 rfl) ?_
    refine gf_H hx hb hr_h.2.1 hown (hts _ (zin__r13 (.fieldLink RX0 9 "ReckonBench$Interval" "kind" "LReckonBench$Kind;") (List.mem_of_getElem? (i := 13) rfl))) (fun _ h9 => h9) dX0_acted_217 ?_
    refine lv_aload_n hx hb dX0_acted_220 rfl (lv_at hl 0 rfl) ?_
    refine gf_H hx hb hr_h.2.1 hown (hts _ (zin__r13 (.fieldLink RX0 9 "ReckonBench$Interval" "kind" "LReckonBench$Kind;") (List.mem_of_getElem? (i := 13) rfl))) (fun _ h9 => h9) dX0_acted_221 ?_
    refine lv_aload_n hx hb dX0_acted_224 rfl (lv_at hl 0 rfl) ?_
    refine gf_H hx hb hr_h.2.2.1 hown (hts _ (zin__r13 (.fieldLink RX0 13 "ReckonBench$Interval" "low" "J") (List.mem_of_getElem? (i := 14) rfl))) (fun _ h9 => h9) dX0_acted_225 ?_
    refine lv_aload_n hx hb dX0_acted_228 rfl (lv_at hl 2 rfl) ?_
    refine gf_H hx hb hr_k.2.2.1 hown (hts _ (zin__r13 (.fieldLink RX0 13 "ReckonBench$Interval" "low" "J") (List.mem_of_getElem? (i := 14) rfl))) (fun _ h9 => h9) dX0_acted_229 ?_
    refine vp_callSl (va_Run.run (va_runV (As := [.long h_lo, .long k_lo]) (rest := [.ref (ad h_k), .ref q_212, .ref q_212]) ⟨hx, hb, hml, hown, hts⟩ (c_X1_lesser l ad h_k h_h_k h_lo k_lo) (cwV 2 hts (gV iX1_lesser (zin__r16 (.methodLink RX0 63 yX1_lesser) (List.mem_of_getElem? (i := 4) rfl))) rfl rfl rfl (by decide +kernel) ⟨Nat.le_of_ble_eq_true rfl, Nat.le_of_ble_eq_true rfl⟩) ⟨fun a U g mk q => ⟨q.1, kU_bl q.2⟩, (kA_rv hk h_h_k), fun U hU hW => ⟨rfl, kU_mvH hk hU hW⟩⟩ rfl rfl hl.1 rfl (lv_room (Nat.le_of_ble_eq_true rfl)) dX0_acted_232 ⟨Nat.le_of_ble_eq_true rfl, Nat.le_of_ble_eq_true rfl⟩)) (fun r_232 hr_232 => ?_)
    subst hr_232
    refine lv_aload_n hx hb dX0_acted_235 rfl (lv_at hl 0 rfl) ?_
    refine gf_H hx hb hr_h.2.1 hown (hts _ (zin__r13 (.fieldLink RX0 9 "ReckonBench$Interval" "kind" "LReckonBench$Kind;") (List.mem_of_getElem? (i := 13) rfl))) (fun _ h9 => h9) dX0_acted_236 ?_
    refine lv_aload_n hx hb dX0_acted_239 rfl (lv_at hl 0 rfl) ?_
    refine gf_H hx hb hr_h.2.2.2 hown (hts _ (zin__r13 (.fieldLink RX0 17 "ReckonBench$Interval" "high" "J") (List.mem_of_getElem? (i := 15) rfl))) (fun _ h9 => h9) dX0_acted_240 ?_
    refine lv_aload_n hx hb dX0_acted_243 rfl (lv_at hl 2 rfl) ?_
    refine gf_H hx hb hr_k.2.2.2 hown (hts _ (zin__r13 (.fieldLink RX0 17 "ReckonBench$Interval" "high" "J") (List.mem_of_getElem? (i := 15) rfl))) (fun _ h9 => h9) dX0_acted_244 ?_
    refine vp_callSl (va_Run.run (va_runV (As := [.long h_hi, .long k_hi]) (rest := [.long (f_X1_lesser h_k h_lo k_lo), .ref (ad h_k), .ref q_212, .ref q_212]) ⟨hx, hb, hml, hown, hts⟩ (c_X1_greater l ad h_k h_h_k h_hi k_hi) (cwV 2 hts (gV iX1_greater (zin__r16 (.methodLink RX0 66 yX1_greater) (List.mem_of_getElem? (i := 5) rfl))) rfl rfl rfl (by decide +kernel) ⟨Nat.le_of_ble_eq_true rfl, Nat.le_of_ble_eq_true rfl⟩) ⟨fun a U g mk q => ⟨q.1, kU_bl q.2⟩, (kA_rv hk h_h_k), fun U hU hW => ⟨rfl, kU_mvH hk hU hW⟩⟩ rfl rfl hl.1 rfl (lv_room (Nat.le_of_ble_eq_true rfl)) dX0_acted_247 ⟨Nat.le_of_ble_eq_true rfl, Nat.le_of_ble_eq_true rfl⟩)) (fun r_247 hr_247 => ?_)
    subst hr_247
    have hFc := va_free (wc := [(q_212, .inr (0, [.null, .long 0, .long 0]))]) hD hS hA [0] rfl
    refine va_callv (va_runI (As := [.ref (ad h_k), .long (f_X1_lesser h_k h_lo k_lo), .long (f_X1_greater h_k h_hi k_hi)]) (rest := [.ref q_212]) ⟨hx, hb, hml, hown, hts⟩ (c_X0_init l dC dI ad q_212 h_k (f_X1_lesser h_k h_lo k_lo) (f_X1_greater h_k h_hi k_hi) H.size) (cwI 3 hts (gI iX0_init.2.2) rfl rfl rfl (hts _ iX0_init.2.1) (hts _ (zin__r14 (.methodLink RX0 33 yX0_init) (List.mem_of_getElem? (i := 8) rfl))) (hts _ iX0_init.1) rfl (by decide +kernel) ⟨Nat.le_of_ble_eq_true rfl, Nat.le_of_ble_eq_true rfl⟩) ⟨fun a U g mk q9 => by obtain ⟨q0, q1, qP, qK, qD⟩ := q9; exact ⟨q0, q1, qP, va_K.moved (u := U) (U := U.calling g mk a) (Vm.Alike.refl U.vm) qK, qD⟩, fun U hU hW => ⟨rfl, by rw [hU], by rw [hU]; exact hP, va_K.moved hW.alike hK, hD.weaken (fun _ _ _ _ => trivial)⟩⟩ rfl rfl hl.1 rfl (lv_room (Nat.le_of_ble_eq_true rfl)) dX0_acted_250 ⟨Nat.le_of_ble_eq_true rfl, Nat.le_of_ble_eq_true rfl⟩) hS (fun q _ h => hFc q h) hFc (fun u_250 t H1 locs ht hvm hw1 hB hz1 hk1 hS => ?_)
    obtain ⟨hP, -, hD1⟩ := hB
    rw [ht] at hP
    have hD := hD1.weaken (fun k q _ h => hFc q.1 h)
    generalize H1 = H at hP hS ⊢
    have hf : f_X0_acted h_k h_lo h_hi x1 k_k k_lo k_hi = u_250 := hf.trans (congrArg (fun z => z) hw1.symm)
    refine W.widen (k := 1) (n := 3) (Nat.le_of_ble_eq_true rfl) (Nat.le_of_ble_eq_true rfl) ?_
    exact W.aret (v := .ref q_212) hx hb hr (Or.inl ⟨_, rfl⟩) (Or.inr ⟨_, rfl⟩) (fun t ht hW => ⟨⟨u_250, q_212, rfl, hf.symm, by rw [ht]; exact hP, va_K.moved hW.alike hK, hD⟩, hS.F ht⟩) hS.2.2 dX0_acted_253
  have hf : f_X0_acted h_k h_lo h_hi x1 k_k k_lo k_hi = ((f_X1_greater h_k h_lo k_lo), (f_X1_lesser h_k h_hi k_hi)) := hf.trans (if_neg c_1_4)
  refine lv_tableOut (tgt := 254) hx hb dX0_acted_1 (Classical.byContradiction fun hh => by
      have := lv_neT (a := 0) c_1_0 (by decide)
      have := lv_neT (a := 1) c_1_1 (by decide)
      have := lv_neT (a := 2) c_1_2 (by decide)
      have := lv_neT (a := 3) c_1_3 (by decide)
      have := lv_neT (a := 4) c_1_4 (by decide)
      omega) (by decide) ?_
  refine va_new (ci := 0) (fs := [.null, .long 0, .long 0]) (C := RX0) (T := TX0) (N := 3) hx hb hts zin_X0 tyX0 tyX0_ok hown (hts _ (zin__r14 (.classLink RX0 1 RX0) (List.mem_of_getElem? (i := 5) rfl))) (hts _ (zin__r13 (.instantiable RX0 3) (List.mem_of_getElem? (i := 7) rfl))) (hts _ (zin__r13 (.initialized RX0) (List.mem_of_getElem? (i := 8) rfl))) hK hP hD hS hA rfl (fun j hj => by rcases (show j = 0 ∨ j = 1 ∨ j = 2 by omega) with rfl | rfl | rfl <;> rfl) (Nat.le_of_ble_eq_true rfl) (Nat.le_of_ble_eq_true rfl) dX0_acted_254 (fun q_254 H hP hD hS => ?_)
  have hP : va_P (dC, dI) vwCl [(q_254, .inr (0, [.null, .long 0, .long 0]))] H := hP
  have hD : va_D A [(q_254, .inr (0, [.null, .long 0, .long 0]))] := hD
  have hk := kA_at hkA hS
  have hr_h := iA_at hiA_h hS
  have hr_k := iA_at hiA_k hS
  refine lv_dup hx hb dX0_acted_257 rfl ?_
  refine lv_aload_n hx hb dX0_acted_258 rfl (lv_at hl 0 rfl) ?_
  refine gf_H hx hb hr_h.2.1 hown (hts _ (zin__r13 (.fieldLink RX0 9 "ReckonBench$Interval" "kind" "LReckonBench$Kind;") (List.mem_of_getElem? (i := 13) rfl))) (fun _ h9 => h9) dX0_acted_259 ?_
  refine lv_aload_n hx hb dX0_acted_262 rfl (lv_at hl 0 rfl) ?_
  refine gf_H hx hb hr_h.2.1 hown (hts _ (zin__r13 (.fieldLink RX0 9 "ReckonBench$Interval" "kind" "LReckonBench$Kind;") (List.mem_of_getElem? (i := 13) rfl))) (fun _ h9 => h9) dX0_acted_263 ?_
  refine lv_aload_n hx hb dX0_acted_266 rfl (lv_at hl 0 rfl) ?_
  refine gf_H hx hb hr_h.2.2.1 hown (hts _ (zin__r13 (.fieldLink RX0 13 "ReckonBench$Interval" "low" "J") (List.mem_of_getElem? (i := 14) rfl))) (fun _ h9 => h9) dX0_acted_267 ?_
  refine lv_aload_n hx hb dX0_acted_270 rfl (lv_at hl 2 rfl) ?_
  refine gf_H hx hb hr_k.2.2.1 hown (hts _ (zin__r13 (.fieldLink RX0 13 "ReckonBench$Interval" "low" "J") (List.mem_of_getElem? (i := 14) rfl))) (fun _ h9 => h9) dX0_acted_271 ?_
  refine vp_callSl (va_Run.run (va_runV (As := [.long h_lo, .long k_lo]) (rest := [.ref (ad h_k), .ref q_254, .ref q_254]) ⟨hx, hb, hml, hown, hts⟩ (c_X1_greater l ad h_k h_h_k h_lo k_lo) (cwV 2 hts (gV iX1_greater (zin__r16 (.methodLink RX0 66 yX1_greater) (List.mem_of_getElem? (i := 5) rfl))) rfl rfl rfl (by decide +kernel) ⟨Nat.le_of_ble_eq_true rfl, Nat.le_of_ble_eq_true rfl⟩) ⟨fun a U g mk q => ⟨q.1, kU_bl q.2⟩, (kA_rv hk h_h_k), fun U hU hW => ⟨rfl, kU_mvH hk hU hW⟩⟩ rfl rfl hl.1 rfl (lv_room (Nat.le_of_ble_eq_true rfl)) dX0_acted_274 ⟨Nat.le_of_ble_eq_true rfl, Nat.le_of_ble_eq_true rfl⟩)) (fun r_274 hr_274 => ?_)
  subst hr_274
  refine lv_aload_n hx hb dX0_acted_277 rfl (lv_at hl 0 rfl) ?_
  refine gf_H hx hb hr_h.2.1 hown (hts _ (zin__r13 (.fieldLink RX0 9 "ReckonBench$Interval" "kind" "LReckonBench$Kind;") (List.mem_of_getElem? (i := 13) rfl))) (fun _ h9 => h9) dX0_acted_278 ?_
  refine lv_aload_n hx hb dX0_acted_281 rfl (lv_at hl 0 rfl) ?_
  refine gf_H hx hb hr_h.2.2.2 hown (hts _ (zin__r13 (.fieldLink RX0 17 "ReckonBench$Interval" "high" "J") (List.mem_of_getElem? (i := 15) rfl))) (fun _ h9 => h9) dX0_acted_282 ?_
  refine lv_aload_n hx hb dX0_acted_285 rfl (lv_at hl 2 rfl) ?_
  refine gf_H hx hb hr_k.2.2.2 hown (hts _ (zin__r13 (.fieldLink RX0 17 "ReckonBench$Interval" "high" "J") (List.mem_of_getElem? (i := 15) rfl))) (fun _ h9 => h9) dX0_acted_286 ?_
  refine vp_callSl (va_Run.run (va_runV (As := [.long h_hi, .long k_hi]) (rest := [.long (f_X1_greater h_k h_lo k_lo), .ref (ad h_k), .ref q_254, .ref q_254]) ⟨hx, hb, hml, hown, hts⟩ (c_X1_lesser l ad h_k h_h_k h_hi k_hi) (cwV 2 hts (gV iX1_lesser (zin__r16 (.methodLink RX0 63 yX1_lesser) (List.mem_of_getElem? (i := 4) rfl))) rfl rfl rfl (by decide +kernel) ⟨Nat.le_of_ble_eq_true rfl, Nat.le_of_ble_eq_true rfl⟩) ⟨fun a U g mk q => ⟨q.1, kU_bl q.2⟩, (kA_rv hk h_h_k), fun U hU hW => ⟨rfl, kU_mvH hk hU hW⟩⟩ rfl rfl hl.1 rfl (lv_room (Nat.le_of_ble_eq_true rfl)) dX0_acted_289 ⟨Nat.le_of_ble_eq_true rfl, Nat.le_of_ble_eq_true rfl⟩)) (fun r_289 hr_289 => ?_)
  subst hr_289
  have hFc := va_free (wc := [(q_254, .inr (0, [.null, .long 0, .long 0]))]) hD hS hA [0] rfl
  refine va_callv (va_runI (As := [.ref (ad h_k), .long (f_X1_greater h_k h_lo k_lo), .long (f_X1_lesser h_k h_hi k_hi)]) (rest := [.ref q_254]) ⟨hx, hb, hml, hown, hts⟩ (c_X0_init l dC dI ad q_254 h_k (f_X1_greater h_k h_lo k_lo) (f_X1_lesser h_k h_hi k_hi) H.size) (cwI 3 hts (gI iX0_init.2.2) rfl rfl rfl (hts _ iX0_init.2.1) (hts _ (zin__r14 (.methodLink RX0 33 yX0_init) (List.mem_of_getElem? (i := 8) rfl))) (hts _ iX0_init.1) rfl (by decide +kernel) ⟨Nat.le_of_ble_eq_true rfl, Nat.le_of_ble_eq_true rfl⟩) ⟨fun a U g mk q9 => by obtain ⟨q0, q1, qP, qK, qD⟩ := q9; exact ⟨q0, q1, qP, va_K.moved (u := U) (U := U.calling g mk a) (Vm.Alike.refl U.vm) qK, qD⟩, fun U hU hW => ⟨rfl, by rw [hU], by rw [hU]; exact hP, va_K.moved hW.alike hK, hD.weaken (fun _ _ _ _ => trivial)⟩⟩ rfl rfl hl.1 rfl (lv_room (Nat.le_of_ble_eq_true rfl)) dX0_acted_292 ⟨Nat.le_of_ble_eq_true rfl, Nat.le_of_ble_eq_true rfl⟩) hS (fun q _ h => hFc q h) hFc (fun u_292 t H1 locs ht hvm hw1 hB hz1 hk1 hS => ?_)
  obtain ⟨hP, -, hD1⟩ := hB
  rw [ht] at hP
  have hD := hD1.weaken (fun k q _ h => hFc q.1 h)
  generalize H1 = H at hP hS ⊢
  have hf : f_X0_acted h_k h_lo h_hi x1 k_k k_lo k_hi = u_292 := hf.trans (congrArg (fun z => z) hw1.symm)
  refine W.widen (k := 1) (n := 3) (Nat.le_of_ble_eq_true rfl) (Nat.le_of_ble_eq_true rfl) ?_
  exact W.aret (v := .ref q_254) hx hb hr (Or.inl ⟨_, rfl⟩) (Or.inr ⟨_, rfl⟩) (fun t ht hW => ⟨⟨u_292, q_254, rfl, hf.symm, by rw [ht]; exact hP, va_K.moved hW.alike hK, hD⟩, hS.F ht⟩) hS.2.2 dX0_acted_295
def f_X3_pair (w_k : Nat) (w_n : Nat) (w_f : Nat → Int64) (x1 : Int32) : Int64 × Int64 := ((w_f ((2 : Int32) * x1).toNatClampNeg), (w_f (((2 : Int32) * x1) + (1 : Int32)).toNatClampNeg))
def zX3_pair : List Cond := .code yX3_pair cX3_pair 2 (some (.object "ReckonBench$Interval")) :: zall
theorem iX3_pair : MWv RX3 yX3_pair (.code yX3_pair cX3_pair 2 (some (.object "ReckonBench$Interval"))) := ⟨(zin__r13 (.instanceMethod yX3_pair) (List.mem_of_getElem? (i := 3) rfl)), (zin__r13 (.selects RX3 yX3_pair yX3_pair) (List.mem_of_getElem? (i := 4) rfl)), (zin__r2 (.initialized RX3) (List.mem_of_getElem? (i := 11) rfl)), (zin__r13 (.code yX3_pair cX3_pair 2 (some (.object "ReckonBench$Interval"))) (List.mem_of_getElem? (i := 5) rfl))⟩
set_option maxHeartbeats 4000000 in
set_option maxRecDepth 100000 in
theorem c_X3_pair (l : Launch) (dC : Nat → ClassId) (dI : Nat → Nat → Nat) (ad : Nat → Nat) (w w_na w_n : Nat) (w_f : Nat → Int64) (w_k : Nat) (h_w_k : w_k < 2) (x1 : Int32) (h1 : vp_in ((2 : Int32) * x1) w_n) (h2 : vp_in (((2 : Int32) * x1) + (1 : Int32)) w_n) (sz : Nat) : Met l yX3_pair zX3_pair ({ frames := 2, cells := 1, slots := 3, locals := 37 }) (va_Pc [.ref w, .int x1] (fun U => aB dC dI ad sz U ∧ rU w ad w_k w_na w_n w_f U)) (va_Qr (fun u => u = f_X3_pair w_k w_n w_f x1) (aE dC dI ad w_k (va_A [] sz)) (va_A [] sz)) 1 3 (va_A [] sz) := by
  refine Met.ofW (cc := cX3_pair) (maxL := 2) (ret := (some (.object "ReckonBench$Interval"))) (by decide) rfl ?_
  intro p e s m args below meth c s₁ B hml hv
  obtain ⟨rfl, ⟨hsz, hK, hk⟩, hr_w⟩ := hv
  have hx := B.exec
  have hb := B.bytes
  have hr := B.returns
  have hts : ∀ w ∈ zall, w.before _ s = true := fun w h => atoms_spec (ws := zX3_pair) B.pre w (List.mem_cons_of_mem _ h)
  have hown : s.vm.findClass RX3 = some m.cls := findClass_of_methodNamed B.named
  have hlocks := B.notSynchronized
  subst hsz
  have hP : va_P (dC, dI) vwCl [] s.heap := fun k q h => by simp at h
  have hD : va_D (va_A [] s.heap.size) [] := ⟨fun i j p q h => by simp at h, fun k q h => by simp at h⟩
  have hkA := kA_new hk
  have hiA_w := rH_new0 hr_w
  generalize hAe : va_A [] s.heap.size = A at hD hkA hiA_w ⊢
  have hA : ∀ q : Nat, s.heap.size ≤ q → A q := fun q h => by rw [← hAe]; exact Or.inr h
  have hS : va_S A s.heap s.heap [] := va_S.rf
  have hk := kA_at hkA hS
  have hr_w := rA_at hiA_w hS
  have hl := lv_entry ([.ref w, .int x1]) (n := 2) (Nat.le_of_ble_eq_true rfl)
  rw [lg_entry_eq]
  generalize (lg_sl ([.ref w, .int x1]) ++ List.replicate (2 - (lg_sl ([.ref w, .int x1])).length) Slot.unset).toArray = ls at hl ⊢
  have hl : lv_has ls 2 [(0, .ref w), (1, .int x1)] := hl
  have hf : f_X3_pair w_k w_n w_f x1 = ((w_f ((2 : Int32) * x1).toNatClampNeg), (w_f (((2 : Int32) * x1) + (1 : Int32)).toNatClampNeg)) := rfl
  refine va_new (ci := 0) (fs := [.null, .long 0, .long 0]) (C := RX0) (T := TX0) (N := 3) hx hb hts zin_X0 tyX0 tyX0_ok hown (hts _ (zin__r13 (.classLink RX3 25 RX0) (List.mem_of_getElem? (i := 6) rfl))) (hts _ (zin__r13 (.instantiable RX0 3) (List.mem_of_getElem? (i := 7) rfl))) (hts _ (zin__r13 (.initialized RX0) (List.mem_of_getElem? (i := 8) rfl))) hK hP hD hS hA rfl (fun j hj => by rcases (show j = 0 ∨ j = 1 ∨ j = 2 by omega) with rfl | rfl | rfl <;> rfl) (Nat.le_of_ble_eq_true rfl) (Nat.le_of_ble_eq_true rfl) dX3_pair_0 (fun q_0 H hP hD hS => ?_)
  have hP : va_P (dC, dI) vwCl [(q_0, .inr (0, [.null, .long 0, .long 0]))] H := hP
  have hD : va_D A [(q_0, .inr (0, [.null, .long 0, .long 0]))] := hD
  have hk := kA_at hkA hS
  have hr_w := rA_at hiA_w hS
  refine lv_dup hx hb dX3_pair_3 rfl ?_
  refine lv_aload_n hx hb dX3_pair_4 rfl (lv_at hl 0 rfl) ?_
  refine gf_H hx hb hr_w.2.1 hown (hts _ (zin__r2 (.fieldLink RX3 9 "ReckonBench$Row" "kind" "LReckonBench$Kind;") (List.mem_of_getElem? (i := 22) rfl))) (fun _ h9 => h9) dX3_pair_5 ?_
  refine lv_aload_n hx hb dX3_pair_8 rfl (lv_at hl 0 rfl) ?_
  refine gf_H hx hb hr_w.2.2.1 hown (hts _ (zin__r2 (.fieldLink RX3 15 "ReckonBench$Row" "numbers" "[J") (List.mem_of_getElem? (i := 23) rfl))) (fun _ h9 => h9) dX3_pair_9 ?_
  refine lv_iconst (v := 2) hx hb dX3_pair_12 (by decide) ?_
  refine lv_iload_n hx hb dX3_pair_13 rfl (lv_at hl 1 rfl) ?_
  refine lv_imul hx hb dX3_pair_14 ?_
  refine tl_H hx hb hr_w.2.2.2 h1 (v := .long (w_f ((2 : Int32) * x1).toNatClampNeg)) rfl dX3_pair_15 ?_
  refine lv_aload_n hx hb dX3_pair_16 rfl (lv_at hl 0 rfl) ?_
  refine gf_H hx hb hr_w.2.2.1 hown (hts _ (zin__r2 (.fieldLink RX3 15 "ReckonBench$Row" "numbers" "[J") (List.mem_of_getElem? (i := 23) rfl))) (fun _ h9 => h9) dX3_pair_17 ?_
  refine lv_iconst (v := 2) hx hb dX3_pair_20 (by decide) ?_
  refine lv_iload_n hx hb dX3_pair_21 rfl (lv_at hl 1 rfl) ?_
  refine lv_imul hx hb dX3_pair_22 ?_
  refine lv_iconst (v := 1) hx hb dX3_pair_23 (by decide) ?_
  refine lv_iadd hx hb dX3_pair_24 ?_
  refine tl_H hx hb hr_w.2.2.2 h2 (v := .long (w_f (((2 : Int32) * x1) + (1 : Int32)).toNatClampNeg)) rfl dX3_pair_25 ?_
  have hFc := va_free (wc := [(q_0, .inr (0, [.null, .long 0, .long 0]))]) hD hS hA [0] rfl
  refine va_callv (va_runI (As := [.ref (ad w_k), .long (w_f ((2 : Int32) * x1).toNatClampNeg), .long (w_f (((2 : Int32) * x1) + (1 : Int32)).toNatClampNeg)]) (rest := [.ref q_0]) ⟨hx, hb, hml, hown, hts⟩ (c_X0_init l dC dI ad q_0 w_k (w_f ((2 : Int32) * x1).toNatClampNeg) (w_f (((2 : Int32) * x1) + (1 : Int32)).toNatClampNeg) H.size) (cwI 3 hts (gI iX0_init.2.2) rfl rfl rfl (hts _ iX0_init.2.1) (hts _ (zin__r13 (.methodLink RX3 27 yX0_init) (List.mem_of_getElem? (i := 9) rfl))) (hts _ iX0_init.1) rfl (by decide +kernel) ⟨Nat.le_of_ble_eq_true rfl, Nat.le_of_ble_eq_true rfl⟩) ⟨fun a U g mk q9 => by obtain ⟨q0, q1, qP, qK, qD⟩ := q9; exact ⟨q0, q1, qP, va_K.moved (u := U) (U := U.calling g mk a) (Vm.Alike.refl U.vm) qK, qD⟩, fun U hU hW => ⟨rfl, by rw [hU], by rw [hU]; exact hP, va_K.moved hW.alike hK, hD.weaken (fun _ _ _ _ => trivial)⟩⟩ rfl rfl hl.1 rfl (lv_room (Nat.le_of_ble_eq_true rfl)) dX3_pair_26 ⟨Nat.le_of_ble_eq_true rfl, Nat.le_of_ble_eq_true rfl⟩) hS (fun q _ h => hFc q h) hFc (fun u_26 t H1 locs ht hvm hw1 hB hz1 hk1 hS => ?_)
  obtain ⟨hP, -, hD1⟩ := hB
  rw [ht] at hP
  have hD := hD1.weaken (fun k q _ h => hFc q.1 h)
  generalize H1 = H at hP hS ⊢
  have hf : f_X3_pair w_k w_n w_f x1 = u_26 := hf.trans (congrArg (fun z => z) hw1.symm)
  refine W.widen (k := 1) (n := 3) (Nat.le_of_ble_eq_true rfl) (Nat.le_of_ble_eq_true rfl) ?_
  exact W.aret (v := .ref q_0) hx hb hr (Or.inl ⟨_, rfl⟩) (Or.inr ⟨_, rfl⟩) (fun t ht hW => ⟨⟨u_26, q_0, rfl, hf.symm, by rw [ht]; exact hP, va_K.moved hW.alike hK, hD⟩, hS.F ht⟩) hS.2.2 dX3_pair_29

