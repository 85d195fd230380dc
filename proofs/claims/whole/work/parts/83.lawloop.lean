theorem l_sub {L : Nat} (hL : L ≤ 3072) : ((Int32.ofNat L) - (6 : Int32)).toInt = (L : Int) - 6 := by
  have h6 : (6 : Int32).toInt = 6 := by decide
  have hl : (Int32.ofNat L).toInt = (L : Int) := nI_toInt (n := L) (by omega)
  rw [Kit.i32_sub (by omega) (by omega), hl, h6]
set_option maxHeartbeats 4000000 in
set_option maxRecDepth 100000 in
theorem law_loop {p : Program} {l : Launch} {e : Env} {m : MethodId} {below : List Frame} {meth : Method} {c : Code} {b L : Nat} {xs : Nat → Int32} {s : State} {dC : Nat → ClassId} {dI : Nat → Nat → Nat} {ad : Nat → Nat} {o rw so ba ma o2 : Nat} {r : Nat → Nat} {cR cJ cI cJ2 : ClassId} (F : lF p m meth c b L xs s ad) (hr : meth.sig.returnType = ret) (hlocks : meth.locks = false) : ∀ (n j : Nat) (S : CSt) (M : MSt) (H : Heap) (locs : List Loc) (ls : Array Slot) (x3 : Int32), 513 ≤ j + n → 6 * j ≤ L → x3 = nI (6 * j) → Rel S M → lI s dC dI ad o rw so ba ma o2 r cR cJ cI cJ2 S M H locs → lv_has ls 4 [(0, .ref b), (1, .ref o), (2, .ref o2), (3, .int x3)] → W p l e room_1 s m #[Value.ref b] below meth c H locs (22 + 4 * j) (6280 + 502 * j) (lw_Z below #[Value.ref b] s) (F0 m 18 ls []) := by
  obtain ⟨hx, hb, hml, hown, hts, hX, hbl, hkA, hZ, had, hL⟩ := id F
  have hbA : ¬ LA0 s b := Nat.not_le.mpr hbl
  intro n
  induction n with
  | zero => intro j S M H locs ls x3 h1 h2; exact absurd h1 (by omega)
  | succ n ih =>
    intro j S M H locs ls x3 h1 h2 ex3 hR hLI hl
    have hS := hLI.2.2.2.2.2
    have hj : (x3).toInt = ((6 * j : Nat) : Int) := by rw [ex3, nI_toInt (by omega)]
    refine lv_iload_n hx hb dL_law_18 rfl (lv_at hl 3 rfl) ?_
    refine lv_aload_n hx hb dL_law_19 rfl (lv_at hl 0 rfl) ?_
    refine va_slen hx hb hX hbl hbA hS dL_law_20 ?_
    refine lv_bipush (v := 6) hx hb dL_law_21 (by decide) ?_
    refine lv_isub hx hb dL_law_23 ?_
    refine lv_icmp_gt (tgt := 981) hx hb dL_law_24 (by decide) (fun c_24 => ?_) (fun c_24 => ?_)
    · refine lv_iconst (v := 1) hx hb dL_law_981 (by decide) ?_
      refine va_forget (fun q hq => hS.2.2 q hq) ?_
      refine W.widen (k := 600000) (n := 7302250) (by omega) (by omega) ?_
      exact lw_ret hx hb hr hlocks dL_law_982
    · have hlt : 6 * j + 6 ≤ L := by
        rw [Int32.lt_iff_toInt_lt, l_sub hL, hj] at c_24
        omega
      have hx3 : 0 ≤ x3.toInt ∧ x3.toInt + 6 ≤ (L : Int) := by rw [hj]; omega
      have K : ∀ (S : CSt) (M : MSt) (H : Heap) (locs : List Loc) (ls : Array Slot), Rel S M → lI s dC dI ad o rw so ba ma o2 r cR cJ cI cJ2 S M H locs → lv_has ls 4 [(0, .ref b), (1, .ref o), (2, .ref o2), (3, .int x3)] → W p l e room_1 s m #[Value.ref b] below meth c H locs (22 + 4 * (j + 1)) (6280 + 502 * (j + 1)) (lw_Z below #[Value.ref b] s) (F0 m 975 ls []) := by
        intro S M H locs ls hR hLI hl
        obtain ⟨y3, e3⟩ : ∃ y : Int32, y = x3 + (6 : Int32) := ⟨_, rfl⟩
        refine lv_iinc (v := y3) (lv' := [(3, .int y3), (0, .ref b), (1, .ref o), (2, .ref o2)]) hx hb dL_law_975 hl (k := 3) rfl (by rw [e3]; rfl) (by decide) rfl (fun ls hl => ?_)
        refine lv_goto (tgt := 18) hx hb dL_law_978 (by decide) ?_
        refine ih (j + 1) S M H locs ls y3 (by omega) (by omega) ?_ hR hLI (lv_sub hl [1, 2, 3, 0] rfl)
        rw [e3, ex3]
        show nI (6 * j) + nI 6 = _
        rw [nI_add]
        exact congrArg nI (by omega)
      refine lv_aload_n hx hb dL_law_27 rfl (lv_at hl 0 rfl) ?_
      refine lv_iload_n hx hb dL_law_28 rfl (lv_at hl 3 rfl) ?_
      refine va_sld hx hb hX hbl hbA hS (l_in0 hx3) dL_law_29 ?_
      refine lv_bipush (v := 31) hx hb dL_law_30 (by decide) ?_
      refine lv_iand hx hb dL_law_32 ?_
      have hj9 : j ≤ 512 := by omega
      rcases Decidable.em (((xs x3.toNatClampNeg) &&& (31 : Int32)) = (0 : Int32)) with c_0 | c_0
      · refine lv_tableIn (tgt := 120) (off := 87) hx hb dL_law_33 (by rw [c_0]; decide) (by rw [c_0]; decide) (by rw [c_0]; rfl) (by decide) ?_
        exact law_row F hj9 hx3 hR hLI hl K
      rcases Decidable.em (((xs x3.toNatClampNeg) &&& (31 : Int32)) = (1 : Int32)) with c_1 | c_1
      · refine lv_tableIn (tgt := 169) (off := 136) hx hb dL_law_33 (by rw [c_1]; decide) (by rw [c_1]; decide) (by rw [c_1]; rfl) (by decide) ?_
        exact law_set F hj9 hx3 hR hLI hl K
      rcases Decidable.em (((xs x3.toNatClampNeg) &&& (31 : Int32)) = (2 : Int32)) with c_2 | c_2
      · refine lv_tableIn (tgt := 242) (off := 209) hx hb dL_law_33 (by rw [c_2]; decide) (by rw [c_2]; decide) (by rw [c_2]; rfl) (by decide) ?_
        exact law_whole F hj9 hx3 hR hLI hl K
      rcases Decidable.em (((xs x3.toNatClampNeg) &&& (31 : Int32)) = (3 : Int32)) with c_3 | c_3
      · refine lv_tableIn (tgt := 315) (off := 282) hx hb dL_law_33 (by rw [c_3]; decide) (by rw [c_3]; decide) (by rw [c_3]; rfl) (by decide) ?_
        exact law_get F hj9 hx3 hR hLI hl K
      rcases Decidable.em (((xs x3.toNatClampNeg) &&& (31 : Int32)) = (4 : Int32)) with c_4 | c_4
      · refine lv_tableIn (tgt := 349) (off := 316) hx hb dL_law_33 (by rw [c_4]; decide) (by rw [c_4]; decide) (by rw [c_4]; rfl) (by decide) ?_
        exact law_cut F hj9 hx3 hR hLI hl K
      rcases Decidable.em (((xs x3.toNatClampNeg) &&& (31 : Int32)) = (5 : Int32)) with c_5 | c_5
      · refine lv_tableIn (tgt := 409) (off := 376) hx hb dL_law_33 (by rw [c_5]; decide) (by rw [c_5]; decide) (by rw [c_5]; rfl) (by decide) ?_
        exact law_compare F hj9 hx3 hR hLI hl K
      rcases Decidable.em (((xs x3.toNatClampNeg) &&& (31 : Int32)) = (6 : Int32)) with c_6 | c_6
      · refine lv_tableIn (tgt := 452) (off := 419) hx hb dL_law_33 (by rw [c_6]; decide) (by rw [c_6]; decide) (by rw [c_6]; rfl) (by decide) ?_
        exact law_between F hj9 hx3 hR hLI hl K
      rcases Decidable.em (((xs x3.toNatClampNeg) &&& (31 : Int32)) = (7 : Int32)) with c_7 | c_7
      · refine lv_tableIn (tgt := 505) (off := 472) hx hb dL_law_33 (by rw [c_7]; decide) (by rw [c_7]; decide) (by rw [c_7]; rfl) (by decide) ?_
        exact law_total F hj9 hx3 hR hLI hl K
      rcases Decidable.em (((xs x3.toNatClampNeg) &&& (31 : Int32)) = (8 : Int32)) with c_8 | c_8
      · refine lv_tableIn (tgt := 548) (off := 515) hx hb dL_law_33 (by rw [c_8]; decide) (by rw [c_8]; decide) (by rw [c_8]; rfl) (by decide) ?_
        exact law_sort F hj9 hx3 hR hLI hl K
      rcases Decidable.em (((xs x3.toNatClampNeg) &&& (31 : Int32)) = (9 : Int32)) with c_9 | c_9
      · refine lv_tableIn (tgt := 581) (off := 548) hx hb dL_law_33 (by rw [c_9]; decide) (by rw [c_9]; decide) (by rw [c_9]; rfl) (by decide) ?_
        exact law_act F hj9 hx3 hR hLI hl K
      rcases Decidable.em (((xs x3.toNatClampNeg) &&& (31 : Int32)) = (10 : Int32)) with c_10 | c_10
      · refine lv_tableIn (tgt := 644) (off := 611) hx hb dL_law_33 (by rw [c_10]; decide) (by rw [c_10]; decide) (by rw [c_10]; rfl) (by decide) ?_
        exact law_step F hj9 hx3 hR hLI hl K
      rcases Decidable.em (((xs x3.toNatClampNeg) &&& (31 : Int32)) = (11 : Int32)) with c_11 | c_11
      · refine lv_tableIn (tgt := 687) (off := 654) hx hb dL_law_33 (by rw [c_11]; decide) (by rw [c_11]; decide) (by rw [c_11]; rfl) (by decide) ?_
        exact law_least F hj9 hx3 hR hLI hl K
      rcases Decidable.em (((xs x3.toNatClampNeg) &&& (31 : Int32)) = (12 : Int32)) with c_12 | c_12
      · refine lv_tableIn (tgt := 710) (off := 677) hx hb dL_law_33 (by rw [c_12]; decide) (by rw [c_12]; decide) (by rw [c_12]; rfl) (by decide) ?_
        exact law_greatest F hj9 hx3 hR hLI hl K
      rcases Decidable.em (((xs x3.toNatClampNeg) &&& (31 : Int32)) = (13 : Int32)) with c_13 | c_13
      · refine lv_tableIn (tgt := 733) (off := 700) hx hb dL_law_33 (by rw [c_13]; decide) (by rw [c_13]; decide) (by rw [c_13]; rfl) (by decide) ?_
        exact law_sum F hj9 hx3 hR hLI hl K
      rcases Decidable.em (((xs x3.toNatClampNeg) &&& (31 : Int32)) = (14 : Int32)) with c_14 | c_14
      · refine lv_tableIn (tgt := 767) (off := 734) hx hb dL_law_33 (by rw [c_14]; decide) (by rw [c_14]; decide) (by rw [c_14]; rfl) (by decide) ?_
        exact law_find F hj9 hx3 hR hLI hl K
      rcases Decidable.em (((xs x3.toNatClampNeg) &&& (31 : Int32)) = (15 : Int32)) with c_15 | c_15
      · refine lv_tableIn (tgt := 830) (off := 797) hx hb dL_law_33 (by rw [c_15]; decide) (by rw [c_15]; decide) (by rw [c_15]; rfl) (by decide) ?_
        exact law_interval F hj9 hx3 hR hLI hl K
      rcases Decidable.em (((xs x3.toNatClampNeg) &&& (31 : Int32)) = (16 : Int32)) with c_16 | c_16
      · refine lv_tableIn (tgt := 883) (off := 850) hx hb dL_law_33 (by rw [c_16]; decide) (by rw [c_16]; decide) (by rw [c_16]; rfl) (by decide) ?_
        exact law_move F hj9 hx3 hR hLI hl K
      rcases Decidable.em (((xs x3.toNatClampNeg) &&& (31 : Int32)) = (17 : Int32)) with c_17 | c_17
      · refine lv_tableIn (tgt := 962) (off := 929) hx hb dL_law_33 (by rw [c_17]; decide) (by rw [c_17]; decide) (by rw [c_17]; rfl) (by decide) ?_
        exact law_status F hj9 hx3 hR hLI hl K
      refine lv_tableOut (tgt := 975) hx hb dL_law_33 (Classical.byContradiction fun hh => by
          have := lv_neT (a := 0) c_0 (by decide)
          have := lv_neT (a := 1) c_1 (by decide)
          have := lv_neT (a := 2) c_2 (by decide)
          have := lv_neT (a := 3) c_3 (by decide)
          have := lv_neT (a := 4) c_4 (by decide)
          have := lv_neT (a := 5) c_5 (by decide)
          have := lv_neT (a := 6) c_6 (by decide)
          have := lv_neT (a := 7) c_7 (by decide)
          have := lv_neT (a := 8) c_8 (by decide)
          have := lv_neT (a := 9) c_9 (by decide)
          have := lv_neT (a := 10) c_10 (by decide)
          have := lv_neT (a := 11) c_11 (by decide)
          have := lv_neT (a := 12) c_12 (by decide)
          have := lv_neT (a := 13) c_13 (by decide)
          have := lv_neT (a := 14) c_14 (by decide)
          have := lv_neT (a := 15) c_15 (by decide)
          have := lv_neT (a := 16) c_16 (by decide)
          have := lv_neT (a := 17) c_17 (by decide)
          omega) (by decide) ?_
      refine W.widen (k := 22 + 4 * (j + 1)) (n := 6280 + 502 * (j + 1)) (by omega) (by omega) ?_
      exact K S M H locs ls hR hLI hl
