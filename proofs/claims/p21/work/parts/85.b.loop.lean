set_option maxHeartbeats 4000000 in
set_option maxRecDepth 100000 in
theorem law_loop {p : Program} {l : Launch} {e : Env} {m : MethodId} {below : List Frame} {meth : Method} {c : Code} {b L : Nat} {xs : Nat → Int32} {s : State} {dC : Nat → ClassId} {dI : Nat → Nat → Nat} {ad : Nat → Nat} {o rw so ba ma : Nat} {cR cJ : ClassId} {T0 : CSt} {k : Nat} (F : lF p m c b L xs s ad) (hr : meth.sig.returnType = ret) (hlocks : meth.locks = false) (hk : k < 2) (h1 : one12 T0 k) : ∀ (n j : Nat) (f : Nat → Int64) (H : Heap) (locs : List Loc) (ls : Array Slot) (x3 : Int32), 16 ≤ j + n → j ≤ 15 → x3 = nI (1 + 4 * j) → lS s dC dI ad o rw so ba ma cR cJ (stB T0 f) H locs → lv_has ls 11 [(3, .int x3), (1, .ref o), (0, .ref b)] → W p l e room_1 s m #[Value.ref b] below meth c H locs (10 + 16 * j) (2000 + 48 * j) (lw_Z below #[Value.ref b] s) (F0 m 35 ls []) := by
  intro n
  induction n with
  | zero => intro j f H locs ls x3 h2 h3; exact absurd h2 (by omega)
  | succ n ih =>
    intro j f H locs ls x3 h2 h3 ex3 hI hl
    obtain ⟨hx, hb, hml, hown, hts, hX, hbl, hTb, hkA, had, hL⟩ := id F
    have hS := hI.2.2
    have hbA : ¬ LA0 s b := Nat.not_le.mpr hbl
    have fin : ∀ ls : Array Slot, lv_has ls 11 [(3, .int x3), (1, .ref o), (0, .ref b)] → W p l e room_1 s m #[Value.ref b] below meth c H locs (10 + 16 * j) (2000 + 48 * j) (lw_Z below #[Value.ref b] s) (F0 m 219 ls []) := by
      intro ls hl
      refine lv_iconst (v := 1) hx hb dL_law_219 (by decide) ?_
      refine va_forget (fun q hq => hS.2.2 q hq) ?_
      refine W.widen (k := 692346) (n := 7025209) (by omega) (by omega) ?_
      exact lw_ret hx hb hr hlocks dL_law_220
    refine lv_iload_n hx hb dL_law_35 rfl (lv_at hl 0 rfl) ?_
    refine lv_iconst (v := 3) hx hb dL_law_36 (by decide) ?_
    refine lv_iadd hx hb dL_law_37 ?_
    refine lv_bipush (v := 60) hx hb dL_law_38 (by decide) ?_
    refine lv_icmp_ge (tgt := 219) hx hb dL_law_40 (by decide) (fun c_40 => ?_) (fun c_40 => ?_)
    · exact fin ls hl
    · have hj : j ≤ 14 := by
        have e3 : x3 + (3 : Int32) = nI (1 + 4 * j + 3) := x3_nd (d := 3) h3 (by decide) ex3
        have e60 : (60 : Int32).toInt = 60 := by decide
        rw [e3, Int32.le_iff_toInt_le, e60, nI_toInt (by omega)] at c_40
        omega
      have go : ∀ ls : Array Slot, lv_has ls 11 [(3, .int x3), (1, .ref o), (0, .ref b)] → W p l e room_1 s m #[Value.ref b] below meth c H locs (10 + 16 * j) (2000 + 48 * j) (lw_Z below #[Value.ref b] s) (F0 m 54 ls []) := fun ls hl =>
        law_body F hk h1 hj ex3 hI hl (fun g H locs ls y3 hI hy hl => ih (j + 1) g H locs ls y3 (by omega) (by omega) (by rw [hy]; exact congrArg nI (by omega)) hI hl)
      refine lv_iload_n hx hb dL_law_43 rfl (lv_at hl 0 rfl) ?_
      refine lv_iconst (v := 1) hx hb dL_law_44 (by decide) ?_
      refine lv_icmp_eq (tgt := 54) hx hb dL_law_45 (by decide) (fun c_45 => ?_) (fun c_45 => ?_)
      · exact go ls hl
      · refine lv_iload_n hx hb dL_law_48 rfl (lv_at hl 0 rfl) ?_
        refine lv_aload_n hx hb dL_law_49 rfl (lv_at hl 2 rfl) ?_
        refine va_slen hx hb hX hbl hbA hS dL_law_50 ?_
        refine lv_icmp_ge (tgt := 219) hx hb dL_law_51 (by decide) (fun c_51 => ?_) (fun c_51 => ?_)
        · exact fin ls hl
        · exact go ls hl
