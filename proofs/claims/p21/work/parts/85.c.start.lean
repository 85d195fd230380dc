theorem cI0 : cInv cS0 := ⟨by decide, fun j hj => absurd hj (Nat.not_lt_zero j)⟩
theorem row_first (k : Nat) (hk : k < 2) (sg : Int32) (hs : sg = nI k) (q na : Nat) : ∃ T0 : CSt, one12 T0 k ∧ f_X6_row cS0 12 sg q na = (0, stB T0 (fun _ => 0)) := by
  refine ⟨cset_rs (cadd cS0 q na k 12) 0, ⟨rfl, ?_, ?_⟩, ?_⟩
  · show updN (ckd cS0) 0 k 0 = k
    unfold updN
    rw [if_pos rfl]
  · show updN (cln cS0) 0 (12 : Int32).toNatClampNeg 0 = 12
    unfold updN
    rw [if_pos rfl]
    decide
  · have e : stB (cset_rs (cadd cS0 q na k 12) 0) (fun _ => 0) = cset_rs (cadd cS0 q na k 12) 0 := by
      show (cn cS0 + 1, updN (ckd cS0) (cn cS0) k, updN (cln cS0) (cn cS0) (12 : Int32).toNatClampNeg, cbU (cbU (cbt cS0) 0 (fun _ => 0)) 0 (fun _ => 0), updN (cro cS0) (cn cS0) q, updN (cna cS0) (cn cS0) na, cbe cS0, cme cS0, ccn cS0 + 12, (0 : Int32)) = _
      rw [cbU_cbU]
      rfl
    rw [e]
    unfold f_X6_row f_X6_row_10 f_X6_row_9 f_X6_row_8 f_X6_row_7 f_X6_row_6
    rw [if_neg (by decide), if_pos (by decide), if_neg (by decide), if_pos (by decide)]
    rcases two_of hk with rfl | rfl
    · rw [if_pos (show sg = 0 from hs)]
      rfl
    · rw [if_neg (show ¬ sg = 0 by rw [hs]; decide)]
      rfl
set_option maxHeartbeats 4000000 in
set_option maxRecDepth 100000 in
theorem whole_start {p : Program} {e : Env} {s : State} {m : MethodId} {below : List Frame} {meth : Method} {c : Code} (l : Launch) (hflags : l.flags = flags0) {b L : Nat} {xs : Nat → Int32} (hL : L ≤ 260) (C0 : lw_At p s m meth c b L xs) : W p l e room_1 s m #[Value.ref b] below meth c s.heap [] 0 0 (lw_Z below #[Value.ref b] s) (entryFrame m ([Value.ref b] : List Value).toArray 11) := by
  obtain ⟨hx, hb, hr, hml, hown, htl, hX, hbl, hlocks, hgv⟩ := id C0
  have hts : ∀ w ∈ zall, w.before #[Value.ref b] s = true := fun w h => htl w (zsub w h)
  obtain ⟨ad, hkA, hZ, had⟩ := kinds_start htl hgv
  have hA : ∀ q : Nat, s.heap.size ≤ q → LA0 s q := fun _ h => h
  have hTb := tX_of hX hbl
  obtain ⟨c0, i0, hK0⟩ := u_known (C := RX0) (T := TX0) (N := 3) (n := 3) hts zin_X0 (hts _ (zin__r13 (.instantiable RX0 3) (List.mem_of_getElem? (i := 7) rfl)))
  obtain ⟨c1, i1, hK1⟩ := u_known (C := RX1) (T := TX1) (N := 0) (n := 9) (ws := []) (s := s) (args := #[Value.ref b]) (fun w h => by cases h) (fun w h => by cases h) (htl (.instantiable RX1 9) (by decide +kernel))
  obtain ⟨c2, i2, hK2⟩ := u_known (C := RX3) (T := TX3) (N := 2) (n := 2) hts zin_X3 (hts _ (zin__r2 (.instantiable RX3 2) (List.mem_of_getElem? (i := 10) rfl)))
  obtain ⟨c3, i3, hK3⟩ := u_known (C := RX4) (T := TX4) (N := 2) (n := 2) hts zin_X4 (hts _ (zin__r1 (.instantiable RX4 2) (List.mem_of_getElem? (i := 13) rfl)))
  obtain ⟨c4, i4, hK4⟩ := u_known (C := RX6) (T := TX6) (N := 5) (n := 5) hts zin_X6 (hts _ (zin__r1 (.instantiable RX6 5) (List.mem_of_getElem? (i := 1) rfl)))
  obtain ⟨dC, dI, hKc⟩ : ∃ (dC : Nat → ClassId) (dI : Nat → Nat → Nat), ∀ (k : Nat) (q : vw_C), vwCl[k]? = some q → u_Kn s q.1 q.2.1 q.2.2 (dC k) (dI k) := by
    refine ⟨fun k => [c0, c1, c2, c3, c4].getD k c0, fun k => [i0, i1, i2, i3, i4].getD k i0, ?_⟩
    intro k q hq
    match k, hq with
    | 0, hq => cases hq; exact hK0
    | 1, hq => cases hq; exact hK1
    | 2, hq => cases hq; exact hK2
    | 3, hq => cases hq; exact hK3
    | 4, hq => cases hq; exact hK4
    | k + 5, hq => simp [vwCl] at hq
  have hS : va_S (LA0 s) s.heap s.heap [] := va_S.rf
  have hK : va_K (dC, dI) vwCl [] s := ⟨hKc, fun k q h => by simp at h⟩
  have hP : va_P (dC, dI) vwCl [] s.heap := fun k q h => by simp at h
  have hD : va_D (LA0 s) [] := ⟨fun i j p q h => by simp at h, fun k q h => by simp at h⟩
  have hover : va_AO "ReckonBench$Row" s := htl (.arrayOver (.object "ReckonBench$Row")) (by decide +kernel)
  have hl := lv_entry ([.ref b]) (n := 11) (Nat.le_of_ble_eq_true rfl)
  rw [lg_entry_eq]
  generalize (lg_sl ([.ref b]) ++ List.replicate (11 - (lg_sl ([.ref b])).length) Slot.unset).toArray = ls at hl ⊢
  have hl : lv_has ls 11 [(0, .ref b)] := hl
  refine va_new (ci := 4) (fs := [.null, .null, .int 0, .int 0, .int 0]) (C := RX6) (T := TX6) (N := 5) hx hb hts zin_X6 tyX6 tyX6_ok hown (hts _ (zin__r1 (.classLink RL 8 RX6) (List.mem_of_getElem? (i := 0) rfl))) (hts _ (zin__r1 (.instantiable RX6 5) (List.mem_of_getElem? (i := 1) rfl))) (hts _ (zin__r1 (.initialized RX6) (List.mem_of_getElem? (i := 2) rfl))) hK hP hD hS hA rfl (fun j hj => by rcases (show j = 0 ∨ j = 1 ∨ j = 2 ∨ j = 3 ∨ j = 4 by omega) with rfl | rfl | rfl | rfl | rfl <;> rfl) (Nat.le_of_ble_eq_true rfl) (Nat.le_of_ble_eq_true rfl) dL_law_0 (fun o H hP hD hS => ?_)
  have hP : va_P (dC, dI) vwCl [(o, .inr (4, [.null, .null, .int 0, .int 0, .int 0]))] H := hP
  have hD : va_D (LA0 s) [(o, .inr (4, [.null, .null, .int 0, .int 0, .int 0]))] := hD
  refine lv_dup hx hb dL_law_3 rfl ?_
  have hFc := va_free (wc := [(o, .inr (4, [.null, .null, .int 0, .int 0, .int 0]))]) hD hS hA [0] rfl
  refine va_callv (va_runI (As := []) (rest := [.ref o]) ⟨hx, hb, hml, hown, hts⟩ (c_X6_init l dC dI ad o H.size) (cwI 0 hts (gI iX6_init.2.2) rfl rfl rfl (hts _ iX6_init.2.1) (hts _ (zin__r1 (.methodLink RL 13 yX6_init) (List.mem_of_getElem? (i := 4) rfl))) (hts _ iX6_init.1) rfl (by decide +kernel) ⟨Nat.le_of_ble_eq_true rfl, Nat.le_of_ble_eq_true rfl⟩) ⟨fun a U g mk q9 => by obtain ⟨q0, q1, qP, qK, qD, qO⟩ := q9; exact ⟨q0, q1, qP, va_K.moved (u := U) (U := U.calling g mk a) (Vm.Alike.refl U.vm) qK, qD, va_AO.moved (u := U) (U := U.calling g mk a) (Vm.Alike.refl U.vm) qO⟩, fun U hU hW => ⟨rfl, by rw [hU], by rw [hU]; exact hP, va_K.moved hW.alike hK, hD.weaken (fun _ _ _ _ => trivial), va_AO.moved hW.alike hover⟩⟩ rfl rfl hl.1 rfl (lv_room (Nat.le_of_ble_eq_true rfl)) dL_law_4 ⟨Nat.le_of_ble_eq_true rfl, Nat.le_of_ble_eq_true rfl⟩) hS (fun q _ h => hFc q h) hFc (fun u t H1 locs1 ht hvm hw hB hz1 hk1 hS1 => ?_)
  obtain ⟨rw, so, ba, ma, cR, cJ⟩ := u
  obtain ⟨hP1, hKb, hD1⟩ := hB
  rw [ht] at hP1
  have hKb := va_K.moved hvm.symm hKb
  have hDb := hD1.weaken (fun k q _ h => hFc q.1 h)
  have hS := hS1
  clear hP hD hFc
  generalize H1 = H at hP1 hS ⊢
  have hw : cH dC dI ad o rw so ba ma cR cJ cS0 s H := ⟨hP1, hKb⟩
  have hD := hDb
  refine lv_astore_n (lv' := [(1, .ref o), (0, .ref b)]) hx hb dL_law_7 rfl hl (by decide) rfl (fun ls hl => ?_)
  refine lv_aload_n hx hb dL_law_8 rfl (lv_at hl 1 rfl) ?_
  refine lv_iconst (v := 0) hx hb dL_law_9 (by decide) ?_
  refine vp_callSi (va_Run.run (va_runS (As := [.ref b, .int (0 : Int32)]) (rest := []) ⟨hx, hb, hml, hown, hts⟩ (c_L_cell l b L xs hL (0 : Int32) (by decide)) (va_cwS 2 hts (gS iL_cell (zin__r2 (.methodLink RL 14 yL_cell) (List.mem_of_getElem? (i := 2) rfl))) rfl rfl rfl (by decide +kernel) ⟨Nat.le_of_ble_eq_true rfl, Nat.le_of_ble_eq_true rfl⟩) ⟨fun a U g mk q => ⟨q.1, va_T.moved (u := U) (U := U.calling g mk a) (Vm.Alike.refl U.vm) q.2⟩, fun U hU hW => ⟨rfl, tX_mv hTb hS hU hW⟩⟩ rfl rfl hl.1 rfl (lv_room (Nat.le_of_ble_eq_true rfl)) dL_law_10 ⟨Nat.le_of_ble_eq_true rfl, Nat.le_of_ble_eq_true rfl⟩)) (fun r_10 _ => ?_)
  refine lv_iconst (v := 1) hx hb dL_law_13 (by decide) ?_
  refine lv_iand hx hb dL_law_14 ?_
  refine lv_iconst (v := 1) hx hb dL_law_15 (by decide) ?_
  refine lv_icmp_ne (tgt := 23) hx hb dL_law_16 (by decide) (fun c_16 => ?_) (fun c_16 => ?_)
  · refine lv_iconst (v := 0) hx hb dL_law_23 (by decide) ?_
    refine lv_istore_n (lv' := [(2, .int (0 : Int32)), (1, .ref o), (0, .ref b)]) hx hb dL_law_24 rfl hl (by decide) rfl (fun ls hl => ?_)
    refine lv_aload_n hx hb dL_law_25 rfl (lv_at hl 1 rfl) ?_
    refine lv_bipush (v := 12) hx hb dL_law_26 (by decide) ?_
    refine lv_iload_n hx hb dL_law_28 rfl (lv_at hl 0 rfl) ?_
    have hFc := va_freeAll hD hS hA
    refine va_calli (va_runV (As := [.int (12 : Int32), .int (0 : Int32)]) (rest := []) ⟨hx, hb, hml, hown, hts⟩ (c_X6_row l dC dI ad o rw so ba ma cR cJ H.size cS0 (12 : Int32) (0 : Int32) cI0) (cwV 2 hts (gV iX6_row (zin__r2 (.methodLink RL 20 yX6_row) (List.mem_of_getElem? (i := 6) rfl))) rfl rfl rfl (by decide +kernel) ⟨Nat.le_of_ble_eq_true rfl, Nat.le_of_ble_eq_true rfl⟩) ⟨fun a U g mk q => ⟨q.1, cB_bl q.2.1, kZ_bl q.2.2⟩, cW_rv hw, fun U hU hW => ⟨rfl, cB_mv hw hD (kA_in hkA hS hFc) hU hW, kZ_at hZ hS hFc hU hW⟩⟩ rfl rfl hl.1 rfl (lv_room (Nat.le_of_ble_eq_true rfl)) dL_law_29 ⟨Nat.le_of_ble_eq_true rfl, Nat.le_of_ble_eq_true rfl⟩) hS (fun q _ h => hFc q h) hFc (fun r_29 S_29 t H1 locs ht hvm hw1 hB hz1 hk1 hS => ?_)
    obtain ⟨hP, -, hD1⟩ := hB
    rw [ht] at hP
    have hD := hD1.weaken (fun k q _ h => hFc q.1 h)
    generalize H1 = H at hP hS ⊢
    obtain ⟨q9, na9, hw1⟩ := hw1
    obtain ⟨T0, h1, eT⟩ := row_first 0 (by decide) (0 : Int32) rfl q9 na9
    obtain ⟨rfl, rfl⟩ : r_29 = 0 ∧ S_29 = stB T0 (fun _ => 0) := Prod.mk.inj (hw1.trans eT)
    refine lv_pop hx hb dL_law_32 rfl ?_
    refine lv_iconst (v := 1) hx hb dL_law_33 (by decide) ?_
    refine lv_istore_n (lv' := [(3, .int (1 : Int32)), (2, .int (0 : Int32)), (1, .ref o), (0, .ref b)]) hx hb dL_law_34 rfl hl (by decide) rfl (fun ls hl => ?_)
    refine W.widen (k := 10 + 16 * 0) (n := 2000 + 48 * 0) (Nat.le_of_ble_eq_true rfl) (Nat.le_of_ble_eq_true rfl) ?_
    exact law_loop (k := 0) ⟨hx, hb, hml, hown, hts, hX, hbl, hTb, hkA, had, hL⟩ hr hlocks (by decide) h1 16 0 (fun _ => 0) H locs ls (1 : Int32) (by omega) (by omega) rfl ⟨⟨hP, hKb⟩, hD, hS⟩ (lv_sub hl [0, 2, 3] rfl)
  · refine lv_iconst (v := 1) hx hb dL_law_19 (by decide) ?_
    refine lv_goto (tgt := 24) hx hb dL_law_20 (by decide) ?_
    refine lv_istore_n (lv' := [(2, .int (1 : Int32)), (1, .ref o), (0, .ref b)]) hx hb dL_law_24 rfl hl (by decide) rfl (fun ls hl => ?_)
    refine lv_aload_n hx hb dL_law_25 rfl (lv_at hl 1 rfl) ?_
    refine lv_bipush (v := 12) hx hb dL_law_26 (by decide) ?_
    refine lv_iload_n hx hb dL_law_28 rfl (lv_at hl 0 rfl) ?_
    have hFc := va_freeAll hD hS hA
    refine va_calli (va_runV (As := [.int (12 : Int32), .int (1 : Int32)]) (rest := []) ⟨hx, hb, hml, hown, hts⟩ (c_X6_row l dC dI ad o rw so ba ma cR cJ H.size cS0 (12 : Int32) (1 : Int32) cI0) (cwV 2 hts (gV iX6_row (zin__r2 (.methodLink RL 20 yX6_row) (List.mem_of_getElem? (i := 6) rfl))) rfl rfl rfl (by decide +kernel) ⟨Nat.le_of_ble_eq_true rfl, Nat.le_of_ble_eq_true rfl⟩) ⟨fun a U g mk q => ⟨q.1, cB_bl q.2.1, kZ_bl q.2.2⟩, cW_rv hw, fun U hU hW => ⟨rfl, cB_mv hw hD (kA_in hkA hS hFc) hU hW, kZ_at hZ hS hFc hU hW⟩⟩ rfl rfl hl.1 rfl (lv_room (Nat.le_of_ble_eq_true rfl)) dL_law_29 ⟨Nat.le_of_ble_eq_true rfl, Nat.le_of_ble_eq_true rfl⟩) hS (fun q _ h => hFc q h) hFc (fun r_29 S_29 t H1 locs ht hvm hw1 hB hz1 hk1 hS => ?_)
    obtain ⟨hP, -, hD1⟩ := hB
    rw [ht] at hP
    have hD := hD1.weaken (fun k q _ h => hFc q.1 h)
    generalize H1 = H at hP hS ⊢
    obtain ⟨q9, na9, hw1⟩ := hw1
    obtain ⟨T0, h1, eT⟩ := row_first 1 (by decide) (1 : Int32) rfl q9 na9
    obtain ⟨rfl, rfl⟩ : r_29 = 0 ∧ S_29 = stB T0 (fun _ => 0) := Prod.mk.inj (hw1.trans eT)
    refine lv_pop hx hb dL_law_32 rfl ?_
    refine lv_iconst (v := 1) hx hb dL_law_33 (by decide) ?_
    refine lv_istore_n (lv' := [(3, .int (1 : Int32)), (2, .int (1 : Int32)), (1, .ref o), (0, .ref b)]) hx hb dL_law_34 rfl hl (by decide) rfl (fun ls hl => ?_)
    refine W.widen (k := 10 + 16 * 0) (n := 2000 + 48 * 0) (Nat.le_of_ble_eq_true rfl) (Nat.le_of_ble_eq_true rfl) ?_
    exact law_loop (k := 1) ⟨hx, hb, hml, hown, hts, hX, hbl, hTb, hkA, had, hL⟩ hr hlocks (by decide) h1 16 0 (fun _ => 0) H locs ls (1 : Int32) (by omega) (by omega) rfl ⟨⟨hP, hKb⟩, hD, hS⟩ (lv_sub hl [0, 2, 3] rfl)
