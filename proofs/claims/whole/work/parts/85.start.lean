/-- one new object beside a world -/
theorem l_two {D : va_G} {cl : List vw_C} {ws : va_W} {H0 H : Heap} {A : Nat → Prop} {locs : List Loc} {q : Nat} {e : va_E} (hP : va_P D cl (ws ++ [(q, e)]) H) (hD : va_D A (ws ++ [(q, e)])) (hS : va_S A H0 H locs) (hA : ∀ z, H0.size ≤ z → A z) : va_P D cl [(q, e)] H ∧ va_D A [(q, e)] ∧ (∀ z, va_A [(q, e)] H.size z → A z) ∧ va_P D cl ws H ∧ (∀ (j : Nat) (y : Nat × va_E), ws[j]? = some y → y.1 < H.size ∧ ¬ va_A [(q, e)] H.size y.1) := by
  have hq : (ws ++ [(q, e)])[ws.length]? = some (q, e) := by
    rw [List.getElem?_append_right (Nat.le_refl _), Nat.sub_self]; rfl
  have hl : ∀ (i : Nat) (x : Nat × va_E), ws[i]? = some x → (ws ++ [(q, e)])[i]? = some x := fun i x h => by
    rw [List.getElem?_append_left (List.getElem?_eq_some_iff.mp h).1]; exact h
  have hC : [ws.length].map (fun i => (ws ++ [(q, e)])[i]?) = [(q, e)].map some := by
    show [(ws ++ [(q, e)])[ws.length]?] = _
    rw [hq]; rfl
  refine ⟨cut_P hP hC, cut_D hD hC (fun k k' i h h' => ?_), va_free hD hS hA _ hC, fun i x h => hP i x (hl i x h), fun j y hy => ?_⟩
  · have a := (List.getElem?_eq_some_iff.mp h).1
    have b := (List.getElem?_eq_some_iff.mp h').1
    simp at a b
    omega
  · have h1 := va_at.lt (hP j y (hl j y hy))
    refine ⟨h1, fun z => ?_⟩
    rcases z with ⟨k9, e9, z⟩ | z
    · rcases k9 with _ | k9
      · have e2 : q = y.1 := congrArg Prod.fst (Option.some.inj z)
        have := hD.1 j _ y _ (hl j y hy) hq e2.symm
        have h3 := (List.getElem?_eq_some_iff.mp hy).1
        omega
      · cases z
    · omega
theorem Rel0 : Rel cS0 mS0 := ⟨⟨by decide, fun j hj => absurd hj (Nat.not_lt_zero j)⟩, ⟨by decide, rfl, fun j hj => absurd hj (Nat.not_lt_zero j), by decide, fun j hj => absurd hj (Nat.not_lt_zero j), fun j p hj => absurd hj (Nat.not_lt_zero j)⟩, rfl, rfl, rfl, fun j hj => absurd hj (Nat.not_lt_zero j), fun _ _ => rfl⟩
set_option maxHeartbeats 4000000 in
set_option maxRecDepth 100000 in
theorem whole_start {p : Program} {e : Env} {s : State} {m : MethodId} {below : List Frame} {meth : Method} {c : Code} (l : Launch) (hflags : l.flags = flags0) {b L : Nat} {xs : Nat → Int32} (hL : L ≤ 3072) (C0 : lw_At p s m meth c b L xs) : W p l e room_1 s m #[Value.ref b] below meth c s.heap [] 0 0 (lw_Z below #[Value.ref b] s) (entryFrame m ([Value.ref b] : List Value).toArray 4) := by
  obtain ⟨hx, hb, hr, hml, hown, htl, hX, hbl, hlocks, hgv⟩ := id C0
  have hts : ∀ w ∈ zall, w.before #[Value.ref b] s = true := fun w h => htl w (zsub w h)
  obtain ⟨ad, hkA, hZ, had⟩ := kinds_start htl hgv
  have hA : ∀ q : Nat, s.heap.size ≤ q → LA0 s q := fun _ h => h
  obtain ⟨c0, i0, hK0⟩ := u_known (C := RX0) (T := TX0) (N := 3) (n := 3) hts zin_X0 (hts _ (zin__r26 (.instantiable RX0 3) (List.mem_of_getElem? (i := 22) rfl)))
  obtain ⟨c1, i1, hK1⟩ := u_known (C := RX1) (T := TX1) (N := 0) (n := 9) (ws := []) (s := s) (args := #[Value.ref b]) (fun w h => by cases h) (fun w h => by cases h) (htl (.instantiable RX1 9) (by decide +kernel))
  obtain ⟨c2, i2, hK2⟩ := u_known (C := RX3) (T := TX3) (N := 2) (n := 2) hts zin_X3 (hts _ (zin__r3 (.instantiable RX3 2) (List.mem_of_getElem? (i := 14) rfl)))
  obtain ⟨c3, i3, hK3⟩ := u_known (C := RX4) (T := TX4) (N := 2) (n := 2) hts zin_X4 (hts _ (zin__r1 (.instantiable RX4 2) (List.mem_of_getElem? (i := 16) rfl)))
  obtain ⟨c4, i4, hK4⟩ := u_known (C := RX6) (T := TX6) (N := 5) (n := 5) hts zin_X6 (hts _ (zin__r1 (.instantiable RX6 5) (List.mem_of_getElem? (i := 1) rfl)))
  obtain ⟨c5, i5, hK5⟩ := u_known (C := RX7) (T := TX7) (N := 18) (n := 18) hts zin_X7 (hts _ (zin__r1 (.instantiable RX7 18) (List.mem_of_getElem? (i := 4) rfl)))
  obtain ⟨dC, dI, hKc⟩ : ∃ (dC : Nat → ClassId) (dI : Nat → Nat → Nat), ∀ (k : Nat) (q : vw_C), vwCl[k]? = some q → u_Kn s q.1 q.2.1 q.2.2 (dC k) (dI k) := by
    refine ⟨fun k => [c0, c1, c2, c3, c4, c5].getD k c0, fun k => [i0, i1, i2, i3, i4, i5].getD k i0, ?_⟩
    intro k q hq
    match k, hq with
    | 0, hq => cases hq; exact hK0
    | 1, hq => cases hq; exact hK1
    | 2, hq => cases hq; exact hK2
    | 3, hq => cases hq; exact hK3
    | 4, hq => cases hq; exact hK4
    | 5, hq => cases hq; exact hK5
    | k + 6, hq => simp [vwCl] at hq
  have hS : va_S (LA0 s) s.heap s.heap [] := va_S.rf
  have hK : va_K (dC, dI) vwCl [] s := ⟨hKc, fun k q h => by simp at h⟩
  have hP : va_P (dC, dI) vwCl [] s.heap := fun k q h => by simp at h
  have hD : va_D (LA0 s) [] := ⟨fun i j p q h => by simp at h, fun k q h => by simp at h⟩
  have hover : va_AO "ReckonBench$Row" s := htl (.arrayOver (.object "ReckonBench$Row")) (by decide +kernel)
  have hl := lv_entry ([.ref b]) (n := 4) (Nat.le_of_ble_eq_true rfl)
  rw [lg_entry_eq]
  generalize (lg_sl ([.ref b]) ++ List.replicate (4 - (lg_sl ([.ref b])).length) Slot.unset).toArray = ls at hl ⊢
  have hl : lv_has ls 4 [(0, .ref b)] := hl
  refine va_new (ci := 4) (fs := [.null, .null, .int 0, .int 0, .int 0]) (C := RX6) (T := TX6) (N := 5) hx hb hts zin_X6 tyX6 tyX6_ok hown (hts _ (zin__r1 (.classLink RL 7 RX6) (List.mem_of_getElem? (i := 0) rfl))) (hts _ (zin__r1 (.instantiable RX6 5) (List.mem_of_getElem? (i := 1) rfl))) (hts _ (zin__r1 (.initialized RX6) (List.mem_of_getElem? (i := 2) rfl))) hK hP hD hS hA rfl (fun j hj => by rcases (show j = 0 ∨ j = 1 ∨ j = 2 ∨ j = 3 ∨ j = 4 by omega) with rfl | rfl | rfl | rfl | rfl <;> rfl) (Nat.le_of_ble_eq_true rfl) (Nat.le_of_ble_eq_true rfl) dL_law_0 (fun o H hP hD hS => ?_)
  have hP : va_P (dC, dI) vwCl [(o, .inr (4, [.null, .null, .int 0, .int 0, .int 0]))] H := hP
  have hD : va_D (LA0 s) [(o, .inr (4, [.null, .null, .int 0, .int 0, .int 0]))] := hD
  refine lv_dup hx hb dL_law_3 rfl ?_
  have hFc := va_free (wc := [(o, .inr (4, [.null, .null, .int 0, .int 0, .int 0]))]) hD hS hA [0] rfl
  refine va_callv (va_runI (As := []) (rest := [.ref o]) ⟨hx, hb, hml, hown, hts⟩ (c_X6_init l dC dI ad o H.size) (cwI 0 hts (gI iX6_init.2.2) rfl rfl rfl (hts _ iX6_init.2.1) (hts _ (zin__r1 (.methodLink RL 9 yX6_init) (List.mem_of_getElem? (i := 7) rfl))) (hts _ iX6_init.1) rfl (by decide +kernel) ⟨Nat.le_of_ble_eq_true rfl, Nat.le_of_ble_eq_true rfl⟩) ⟨fun a U g mk q9 => by obtain ⟨q0, q1, qP, qK, qD, qO⟩ := q9; exact ⟨q0, q1, qP, va_K.moved (u := U) (U := U.calling g mk a) (Vm.Alike.refl U.vm) qK, qD, va_AO.moved (u := U) (U := U.calling g mk a) (Vm.Alike.refl U.vm) qO⟩, fun U hU hW => ⟨rfl, by rw [hU], by rw [hU]; exact hP, va_K.moved hW.alike hK, hD.weaken (fun _ _ _ _ => trivial), va_AO.moved hW.alike hover⟩⟩ rfl rfl hl.1 rfl (lv_room (Nat.le_of_ble_eq_true rfl)) dL_law_4 ⟨Nat.le_of_ble_eq_true rfl, Nat.le_of_ble_eq_true rfl⟩) hS (fun q _ h => hFc q h) hFc (fun u t H1 locs1 ht hvm hw hB hz1 hk1 hS1 => ?_)
  obtain ⟨rw, so, ba, ma, cR, cJ⟩ := u
  obtain ⟨hP1, hKb, hD1⟩ := hB
  rw [ht] at hP1
  have hKb := va_K.moved hvm.symm hKb
  have hDb := hD1.weaken (fun k q _ h => hFc q.1 h)
  refine lv_astore_n (lv' := [(1, .ref o), (0, .ref b)]) hx hb dL_law_7 rfl hl (by decide) rfl (fun ls hl => ?_)
  refine va_new (ci := 5) (fs := [.null, .null, .null, .null, .null, .null, .null, .null, .null, .null, .null, .null, .null, .null, .null, .null, .int 0, .int 0]) (C := RX7) (T := TX7) (N := 18) hx hb hts zin_X7 tyX7 tyX7_ok hown (hts _ (zin__r1 (.classLink RL 10 RX7) (List.mem_of_getElem? (i := 3) rfl))) (hts _ (zin__r1 (.instantiable RX7 18) (List.mem_of_getElem? (i := 4) rfl))) (hts _ (zin__r1 (.initialized RX7) (List.mem_of_getElem? (i := 5) rfl))) hKb hP1 hDb hS1 hA rfl (fun j hj => by rcases (show j = 0 ∨ j = 1 ∨ j = 2 ∨ j = 3 ∨ j = 4 ∨ j = 5 ∨ j = 6 ∨ j = 7 ∨ j = 8 ∨ j = 9 ∨ j = 10 ∨ j = 11 ∨ j = 12 ∨ j = 13 ∨ j = 14 ∨ j = 15 ∨ j = 16 ∨ j = 17 by omega) with rfl | rfl | rfl | rfl | rfl | rfl | rfl | rfl | rfl | rfl | rfl | rfl | rfl | rfl | rfl | rfl | rfl | rfl <;> rfl) (Nat.le_of_ble_eq_true rfl) (Nat.le_of_ble_eq_true rfl) dL_law_8 (fun o2 H2 hP2 hD2 hS2 => ?_)
  refine lv_dup hx hb dL_law_11 rfl ?_
  obtain ⟨hPo, hDo, hFo, hPb, hap⟩ := l_two hP2 hD2 hS2 hA
  refine va_callv (va_runI (As := []) (rest := [.ref o2]) ⟨hx, hb, hml, hown, hts⟩ (c_X7_init l dC dI o2 H2.size) (cwI 0 hts (gI iX7_init.2.2) rfl rfl rfl (hts _ iX7_init.2.1) (hts _ (zin__r2 (.methodLink RL 12 yX7_init) (List.mem_of_getElem? (i := 5) rfl))) (hts _ iX7_init.1) rfl (by decide +kernel) ⟨Nat.le_of_ble_eq_true rfl, Nat.le_of_ble_eq_true rfl⟩) ⟨fun a U g mk q9 => by obtain ⟨q0, q1, qP, qK, qD⟩ := q9; exact ⟨q0, q1, qP, va_K.moved (u := U) (U := U.calling g mk a) (Vm.Alike.refl U.vm) qK, qD⟩, fun U hU hW => ⟨rfl, by rw [hU], by rw [hU]; exact hPo, va_K.moved hW.alike hK, va_D_one⟩⟩ rfl rfl hl.1 rfl (lv_room (Nat.le_of_ble_eq_true rfl)) dL_law_12 ⟨Nat.le_of_ble_eq_true rfl, Nat.le_of_ble_eq_true rfl⟩) hS2 (fun q _ h => hFo q h) hFo (fun u t3 H3 locs3 ht3 hvm3 hw3 hB3 hz3 hk3 hS3 => ?_)
  obtain ⟨r, cI, cJ2⟩ := u
  obtain ⟨hP3, hK3b, hD3⟩ := hB3
  rw [ht3] at hP3
  have hK3b := va_K.moved hvm3.symm hK3b
  have hLI : lI s dC dI ad o rw so ba ma o2 r cR cJ cI cJ2 cS0 mS0 H3 locs3 := by
    refine ⟨⟨hPb.kept (fun j y hy => hk3 y.1 (hap j y hy).1 (hap j y hy).2), hKb⟩, hDb, ⟨hP3, hK3b⟩, hD3.weaken (fun k q _ h => hFo q.1 h), fun i j x y h1 h2 e => ?_, hS3⟩
    exact (hap i x h1).2 (by rw [e]; exact hD3.2 j y h2)
  refine lv_astore_n (lv' := [(2, .ref o2), (1, .ref o), (0, .ref b)]) hx hb dL_law_15 rfl hl (by decide) rfl (fun ls hl => ?_)
  refine lv_iconst (v := 0) hx hb dL_law_16 (by decide) ?_
  refine lv_istore_n (lv' := [(3, .int 0), (2, .ref o2), (1, .ref o), (0, .ref b)]) hx hb dL_law_17 rfl hl (by decide) rfl (fun ls hl => ?_)
  refine W.widen (k := 22 + 4 * 0) (n := 6280 + 502 * 0) (Nat.le_of_ble_eq_true rfl) (Nat.le_of_ble_eq_true rfl) ?_
  exact law_loop ⟨hx, hb, hml, hown, hts, hX, hbl, hkA, hZ, had, hL⟩ hr hlocks 513 0 cS0 mS0 H3 locs3 ls 0 (by omega) (by omega) rfl Rel0 hLI (lv_sub hl [3, 2, 1, 0] rfl)
