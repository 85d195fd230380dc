def zL_isNone : List Cond := .code yL_isNone cL_isNone 2 (some .boolean) :: zall
theorem iL_isNone : MWs yL_isNone (.code yL_isNone cL_isNone 2 (some .boolean)) := ⟨(zin__r12 (.static yL_isNone) (List.mem_of_getElem? (i := 16) rfl)), (zin__r2 (.initialized RL) (List.mem_of_getElem? (i := 4) rfl)), (zin__r12 (.code yL_isNone cL_isNone 2 (some .boolean)) (List.mem_of_getElem? (i := 17) rfl))⟩
set_option maxHeartbeats 4000000 in
set_option maxRecDepth 100000 in
theorem c_L_isNone (l : Launch) (dC : Nat → ClassId) (dI : Nat → Nat → Nat) (ad : Nat → Nat) (o rw so ba ma : Nat) (cR cJ : ClassId) (sz : Nat) (T0 : CSt) (k : Nat) (f : Nat → Int64) (hk : k < 2) (h1 : one12 T0 k) (a1 : Int32) (i : Nat) (e1 : a1 = nI i) (hi : i < 12) (x : Int64) (qi : f i = x) (cx : kcn k x) : Met l yL_isNone zL_isNone ({ frames := 5, cells := 0, slots := 0, locals := 116 }) (va_Pc [.ref o, .int a1] (fun U => cB dC dI ad o rw so ba ma cR cJ sz (stB T0 f) U)) (va_Qi (fun r9 S9 => r9 = (if x = knan k then (1 : Int32) else 0) ∧ S9 = stB T0 f) (cE dC dI ad o rw so ba ma cR cJ (va_A (cWs ad o rw so ba ma cR cJ (stB T0 f)) sz)) (va_A (cWs ad o rw so ba ma cR cJ (stB T0 f)) sz)) 0 0 (va_A (cWs ad o rw so ba ma cR cJ (stB T0 f)) sz) := by
  refine Met.ofW (cc := cL_isNone) (maxL := 2) (ret := (some .boolean)) (by decide) rfl ?_
  intro p e s m args below meth c s₁ Bx hml hv
  obtain ⟨rfl, hsz, hP, hK, hD0, hkA⟩ := hv
  have hx := Bx.exec
  have hb := Bx.bytes
  have hr := Bx.returns
  have hts : ∀ w ∈ zall, w.before _ s = true := fun w h => atoms_spec (ws := zL_isNone) Bx.pre w (List.mem_cons_of_mem _ h)
  have hown : s.vm.findClass RL = some m.cls := findClass_of_methodNamed Bx.named
  have hlocks := Bx.notSynchronized
  subst hsz
  have hD := hD0.self (sz := s.heap.size)
  generalize hAe : va_A (cWs ad o rw so ba ma cR cJ (stB T0 f)) s.heap.size = A at hD hkA ⊢
  have hA : ∀ q : Nat, s.heap.size ≤ q → A q := fun q h => by rw [← hAe]; exact Or.inr h
  have hS : va_S A s.heap s.heap [] := va_S.rf
  have hw : cH dC dI ad o rw so ba ma cR cJ (stB T0 f) s s.heap := ⟨hP, hK⟩
  have hl := lv_entry ([.ref o, .int a1]) (n := 2) (Nat.le_of_ble_eq_true rfl)
  rw [lg_entry_eq]
  generalize (lg_sl ([.ref o, .int a1]) ++ List.replicate (2 - (lg_sl ([.ref o, .int a1])).length) Slot.unset).toArray = ls at hl ⊢
  have hl : lv_has ls 2 [(0, .ref o), (1, .int a1)] := hl
  subst e1
  refine lv_aload_n hx hb dL_isNone_0 rfl (lv_at hl 0 rfl) ?_
  refine lv_iconst (v := 0) hx hb dL_isNone_1 (by decide) ?_
  refine lv_iload_n hx hb dL_isNone_2 rfl (lv_at hl 1 rfl) ?_
  refine lv_iload_n hx hb dL_isNone_3 rfl (lv_at hl 1 rfl) ?_
  have hFc := va_freeAll hD hS hA
  refine va_calli (va_runV (As := [.int (0 : Int32), .int (nI i), .int (nI i)]) (rest := []) ⟨hx, hb, hml, hown, hts⟩ (c_X6_compare l dC dI ad o rw so ba ma cR cJ s.heap.size (stB T0 f) (0 : Int32) (nI i) (nI i) (inv12 h1 hk)) (cwV 3 hts (gV iX6_compare (zin__r5 (.methodLink RL 7 yX6_compare) (List.mem_of_getElem? (i := 0) rfl))) rfl rfl rfl (by decide +kernel) ⟨Nat.le_of_ble_eq_true rfl, Nat.le_of_ble_eq_true rfl⟩) ⟨fun a U g mk q => ⟨q.1, cB_bl q.2⟩, cW_rv hw, fun U hU hW => ⟨rfl, cB_mv hw hD (kA_in hkA hS hFc) hU hW⟩⟩ rfl rfl hl.1 rfl (lv_room (Nat.le_of_ble_eq_true rfl)) dL_isNone_4 ⟨Nat.zero_le _, Nat.zero_le _⟩) hS (fun q _ h => hFc q h) hFc (fun r_4 S_4 t H1 locs ht hvm hw1 hB hz1 hk1 hS => ?_)
  obtain ⟨hP, -, hD1⟩ := hB
  rw [ht] at hP
  have hD := hD1.weaken (fun k q _ h => hFc q.1 h)
  generalize H1 = H at hP hS ⊢
  obtain ⟨rfl, rfl⟩ : (f_X1_relations k x x) = r_4 ∧ stB T0 f = S_4 := Prod.mk.inj (hw1.trans (compare_at (i := i) (j := i) h1 hi hi qi qi)).symm
  have hw : cH dC dI ad o rw so ba ma cR cJ (stB T0 f) s H := ⟨hP, hK⟩
  refine lv_bipush (v := 32) hx hb dL_isNone_7 (by decide) ?_
  refine lv_icmp_ne (tgt := 16) hx hb dL_isNone_9 (by decide) (fun c_9 => ?_) (fun c_9 => ?_)
  · refine lv_iconst (v := 0) hx hb dL_isNone_16 (by decide) ?_
    exact W.zret hx hb hr rfl (fun t ht hW => ⟨⟨_, stB T0 f, rfl, ⟨((if_neg (fun hn => c_9 ((rel_self hk cx).trans (if_pos hn)))).symm), rfl⟩, by rw [ht]; exact hP, va_K.moved hW.alike hK, hD⟩, hS.F ht⟩) hS.2.2 dL_isNone_17
  · refine lv_iconst (v := 1) hx hb dL_isNone_12 (by decide) ?_
    refine lv_goto (tgt := 17) hx hb dL_isNone_13 (by decide) ?_
    exact W.zret hx hb hr rfl (fun t ht hW => ⟨⟨_, stB T0 f, rfl, ⟨((if_pos (by
      have h := rel_self hk cx
      rw [c_9] at h
      by_cases hn : x = knan k
      · exact hn
      · rw [if_neg hn] at h; exact absurd h (by decide))).symm), rfl⟩, by rw [ht]; exact hP, va_K.moved hW.alike hK, hD⟩, hS.F ht⟩) hS.2.2 dL_isNone_17
