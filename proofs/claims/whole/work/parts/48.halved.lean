theorem in_of {n : Nat} (hn : n ≤ 500) {x : Int32} (h1 : ¬ x < 0) (h2 : ¬ nI n ≤ x) : vp_in x n := by
  obtain ⟨q, hq, rfl⟩ := nI_of h1
  rw [nI_leI (by omega) hq] at h2
  exact vp_in_nI (by omega) (by omega)
theorem hS_ {q : Nat} {x : Int32} (hd : 0 ≤ x.toInt ∧ 42 ≤ x.toInt + ((q + 1 : Nat) : Int) ∧ x.toInt ≤ 41) (h : x ≤ 40) : 0 ≤ (x + (1 : Int32)).toInt ∧ 42 ≤ (x + (1 : Int32)).toInt + (q : Int) ∧ (x + (1 : Int32)).toInt ≤ 41 := by
  rw [Int32.le_iff_toInt_le] at h
  have h40 : (40 : Int32).toInt = 40 := by decide
  rw [h40] at h
  rw [inc_val (by omega)]
  omega
def f_X5_ofPartR_1 (rec : Int32 → Int32 → Int32 → Int64) (i : Nat) (a_n : Nat) (a_f : Nat → Int64) (x1 : Int32) (x2 : Int32) (x3 : Int32) (v5_1 : Int32) : Int64 := (f_X2_plus i (rec x1 v5_1 (x3 + (1 : Int32))) (rec (x1 + v5_1) (x2 - v5_1) (x3 + (1 : Int32))))
def f_X5_ofPartR_2 (rec : Int32 → Int32 → Int32 → Int64) (i : Nat) (a_n : Nat) (a_f : Nat → Int64) (x1 : Int32) (x2 : Int32) (x3 : Int32) : Int64 := if x2 = (1 : Int32) then (a_f x1.toNatClampNeg) else (f_X5_ofPartR_1 rec i a_n a_f x1 x2 x3 (x2 / (2 : Int32)))
def f_X5_ofPartR_3 (rec : Int32 → Int32 → Int32 → Int64) (i : Nat) (a_n : Nat) (a_f : Nat → Int64) (x1 : Int32) (x2 : Int32) (x3 : Int32) : Int64 := if x3 ≤ (40 : Int32) then (f_X5_ofPartR_2 rec i a_n a_f x1 x2 x3) else (0 : Int64)
def f_X5_ofPartR_4 (rec : Int32 → Int32 → Int32 → Int64) (i : Nat) (a_n : Nat) (a_f : Nat → Int64) (x1 : Int32) (x2 : Int32) (x3 : Int32) : Int64 := if (nI a_n) ≤ x1 then (0 : Int64) else (f_X5_ofPartR_3 rec i a_n a_f x1 x2 x3)
def f_X5_ofPartR_5 (rec : Int32 → Int32 → Int32 → Int64) (i : Nat) (a_n : Nat) (a_f : Nat → Int64) (x1 : Int32) (x2 : Int32) (x3 : Int32) : Int64 := if x1 < 0 then (0 : Int64) else (f_X5_ofPartR_4 rec i a_n a_f x1 x2 x3)
def f_X5_ofPartR_6 (rec : Int32 → Int32 → Int32 → Int64) (i : Nat) (a_n : Nat) (a_f : Nat → Int64) (x1 : Int32) (x2 : Int32) (x3 : Int32) : Int64 := if x2 < (1 : Int32) then (0 : Int64) else (f_X5_ofPartR_5 rec i a_n a_f x1 x2 x3)
def f_X5_ofPartR : Nat → Nat → Nat → (Nat → Int64) → Int32 → Int32 → Int32 → Int64
  | 0, _, _, _, _, _, _ => 0
  | q + 1, i, a_n, a_f, x1, x2, x3 => f_X5_ofPartR_6 (f_X5_ofPartR q i a_n a_f) i a_n a_f x1 x2 x3
def zX5_ofPart : List Cond := .code yX5_ofPart cX5_ofPart 10 (some .long) :: zall
theorem iX5_ofPart : MWs yX5_ofPart (.code yX5_ofPart cX5_ofPart 10 (some .long)) := ⟨(zin__r25 (.static yX5_ofPart) (List.mem_of_getElem? (i := 6) rfl)), (zin__r24 (.initialized RX5) (List.mem_of_getElem? (i := 19) rfl)), (zin__r25 (.code yX5_ofPart cX5_ofPart 10 (some .long)) (List.mem_of_getElem? (i := 7) rfl))⟩
set_option maxHeartbeats 4000000 in
set_option maxRecDepth 100000 in
theorem c_X5_ofPartR (l : Launch) (ad : Nat → Nat) (i : Nat) (h_i : i < 2) (a a_n : Nat) (a_f : Nat → Int64) (hn : a_n ≤ 500) (q : Nat) : ∀ (x1 x2 x3 : Int32) (hd : 0 ≤ x3.toInt ∧ 42 ≤ x3.toInt + q ∧ x3.toInt ≤ 41), Met l yX5_ofPart zX5_ofPart ({ frames := 5 + q, cells := 0, slots := 0, locals := 132 + 29 * q }) (va_Pc [.ref (ad i), .ref a, .int x1, .int x2, .int x3] (fun U => kU ad U ∧ tU a a_n a_f U)) (vp_Sl (fun r => r = f_X5_ofPartR q i a_n a_f x1 x2 x3)) 0 0 (fun _ => False) := by
  induction q with
  | zero => intro x1 x2 x3 hd; exact absurd hd.2.1 (by have := hd.2.2; omega)
  | succ q ih =>
  intro x1 x2 x3 hd
  refine Met.ofW (cc := cX5_ofPart) (maxL := 10) (ret := (some .long)) (by decide) rfl ?_
  intro p e s m args below meth c s₁ B hml hv
  obtain ⟨rfl, hk, hr_a⟩ := hv
  have hx := B.exec
  have hb := B.bytes
  have hr := B.returns
  have hts : ∀ w ∈ zall, w.before _ s = true := fun w h => atoms_spec (ws := zX5_ofPart) B.pre w (List.mem_cons_of_mem _ h)
  have hown : s.vm.findClass RX5 = some m.cls := findClass_of_methodNamed B.named
  have hlocks := B.notSynchronized
  have hl := lv_entry ([.ref (ad i), .ref a, .int x1, .int x2, .int x3]) (n := 10) (Nat.le_of_ble_eq_true rfl)
  rw [lg_entry_eq]
  generalize (lg_sl ([.ref (ad i), .ref a, .int x1, .int x2, .int x3]) ++ List.replicate (10 - (lg_sl ([.ref (ad i), .ref a, .int x1, .int x2, .int x3])).length) Slot.unset).toArray = ls at hl ⊢
  have hl : lv_has ls 10 [(0, .ref (ad i)), (1, .ref a), (2, .int x1), (3, .int x2), (4, .int x3)] := hl
  have hf : f_X5_ofPartR (q + 1) i a_n a_f x1 x2 x3 = (f_X5_ofPartR_6 (f_X5_ofPartR q i a_n a_f) i a_n a_f x1 x2 x3) := rfl
  refine lv_iload_n hx hb dX5_ofPart_0 rfl (lv_at hl 3 rfl) ?_
  refine lv_iconst (v := 1) hx hb dX5_ofPart_1 (by decide) ?_
  refine lv_icmp_lt (tgt := 22) hx hb dX5_ofPart_2 (by decide) (fun c_2 => ?_) (fun c_2 => ?_)
  · have hf : f_X5_ofPartR (q + 1) i a_n a_f x1 x2 x3 = (0 : Int64) := hf.trans (if_pos c_2)
    refine lv_lconst (v := 0) hx hb dX5_ofPart_22 (by decide) ?_
    exact W.lret hx hb hr (fun t ht hW => ⟨_, rfl, hf.symm, ht⟩) (fun q hq => absurd hq List.not_mem_nil) dX5_ofPart_23
  · have hf : f_X5_ofPartR (q + 1) i a_n a_f x1 x2 x3 = (f_X5_ofPartR_5 (f_X5_ofPartR q i a_n a_f) i a_n a_f x1 x2 x3) := hf.trans (if_neg c_2)
    refine lv_iload_n hx hb dX5_ofPart_5 rfl (lv_at hl 2 rfl) ?_
    refine lv_if_lt (tgt := 22) hx hb dX5_ofPart_6 (by decide) (fun c_6 => ?_) (fun c_6 => ?_)
    · have hf : f_X5_ofPartR (q + 1) i a_n a_f x1 x2 x3 = (0 : Int64) := hf.trans (if_pos c_6)
      refine lv_lconst (v := 0) hx hb dX5_ofPart_22 (by decide) ?_
      exact W.lret hx hb hr (fun t ht hW => ⟨_, rfl, hf.symm, ht⟩) (fun q hq => absurd hq List.not_mem_nil) dX5_ofPart_23
    · have hf : f_X5_ofPartR (q + 1) i a_n a_f x1 x2 x3 = (f_X5_ofPartR_4 (f_X5_ofPartR q i a_n a_f) i a_n a_f x1 x2 x3) := hf.trans (if_neg c_6)
      refine lv_iload_n hx hb dX5_ofPart_9 rfl (lv_at hl 2 rfl) ?_
      refine lv_aload_n hx hb dX5_ofPart_10 rfl (lv_at hl 1 rfl) ?_
      refine va_tlen hx hb hr_a va_S.rf (v := (nI a_n)) rfl dX5_ofPart_11 ?_
      refine lv_icmp_ge (tgt := 22) hx hb dX5_ofPart_12 (by decide) (fun c_12 => ?_) (fun c_12 => ?_)
      · have hf : f_X5_ofPartR (q + 1) i a_n a_f x1 x2 x3 = (0 : Int64) := hf.trans (if_pos c_12)
        refine lv_lconst (v := 0) hx hb dX5_ofPart_22 (by decide) ?_
        exact W.lret hx hb hr (fun t ht hW => ⟨_, rfl, hf.symm, ht⟩) (fun q hq => absurd hq List.not_mem_nil) dX5_ofPart_23
      · have hf : f_X5_ofPartR (q + 1) i a_n a_f x1 x2 x3 = (f_X5_ofPartR_3 (f_X5_ofPartR q i a_n a_f) i a_n a_f x1 x2 x3) := hf.trans (if_neg c_12)
        refine lv_iload hx hb dX5_ofPart_15 (lv_at hl 4 rfl) ?_
        refine lv_bipush (v := 40) hx hb dX5_ofPart_17 (by decide) ?_
        refine lv_icmp_le (tgt := 24) hx hb dX5_ofPart_19 (by decide) (fun c_19 => ?_) (fun c_19 => ?_)
        · have hf : f_X5_ofPartR (q + 1) i a_n a_f x1 x2 x3 = (f_X5_ofPartR_2 (f_X5_ofPartR q i a_n a_f) i a_n a_f x1 x2 x3) := hf.trans (if_pos c_19)
          refine lv_iload_n hx hb dX5_ofPart_24 rfl (lv_at hl 3 rfl) ?_
          refine lv_iconst (v := 1) hx hb dX5_ofPart_25 (by decide) ?_
          refine lv_icmp_ne (tgt := 33) hx hb dX5_ofPart_26 (by decide) (fun c_26 => ?_) (fun c_26 => ?_)
          · have hf : f_X5_ofPartR (q + 1) i a_n a_f x1 x2 x3 = (f_X5_ofPartR_1 (f_X5_ofPartR q i a_n a_f) i a_n a_f x1 x2 x3 (x2 / (2 : Int32))) := hf.trans (if_neg c_26)
            refine lv_iload_n hx hb dX5_ofPart_33 rfl (lv_at hl 3 rfl) ?_
            refine lv_iconst (v := 2) hx hb dX5_ofPart_34 (by decide) ?_
            refine lv_idiv hx hb dX5_ofPart_35 (by decide) ?_
            refine lv_topi (fun v5_1 e_v5_1 => ?_)
            have hf : f_X5_ofPartR (q + 1) i a_n a_f x1 x2 x3 = (f_X5_ofPartR_1 (f_X5_ofPartR q i a_n a_f) i a_n a_f x1 x2 x3 v5_1) := hf.trans (congrArg (fun z => (f_X5_ofPartR_1 (f_X5_ofPartR q i a_n a_f) i a_n a_f x1 x2 x3 z)) e_v5_1.symm)
            refine lv_istore (lv' := [(5, .int v5_1), (0, .ref (ad i)), (1, .ref a), (2, .int x1), (3, .int x2), (4, .int x3)]) hx hb dX5_ofPart_36 hl (by decide) rfl (fun ls hl => ?_)
            refine lv_aload_n hx hb dX5_ofPart_38 rfl (lv_at hl 1 rfl) ?_
            refine lv_aload_n hx hb dX5_ofPart_39 rfl (lv_at hl 2 rfl) ?_
            refine lv_iload_n hx hb dX5_ofPart_40 rfl (lv_at hl 3 rfl) ?_
            refine lv_iload hx hb dX5_ofPart_41 (lv_at hl 0 rfl) ?_
            refine lv_iload hx hb dX5_ofPart_43 (lv_at hl 5 rfl) ?_
            refine lv_iconst (v := 1) hx hb dX5_ofPart_45 (by decide) ?_
            refine lv_iadd hx hb dX5_ofPart_46 ?_
            refine vp_callSl (va_Run.run (va_runS (As := [.ref (ad i), .ref a, .int x1, .int v5_1, .int (x3 + (1 : Int32))]) (rest := []) ⟨hx, hb, hml, hown, hts⟩ (ih x1 v5_1 (x3 + (1 : Int32)) (hS_ hd c_19)) (va_cwS 5 hts (gS iX5_ofPart (zin__r25 (.methodLink RX5 16 yX5_ofPart) (List.mem_of_getElem? (i := 5) rfl))) rfl rfl rfl (by decide +kernel) ⟨(show 5 + q + 1 ≤ 5 + (q + 1) by omega), (show 8 + (10 + 11) + (132 + 29 * q) ≤ 132 + 29 * (q + 1) by omega)⟩) ⟨fun a U g mk q => ⟨q.1, kU_bl q.2.1, tU_bl q.2.2⟩, fun U hU hW => ⟨rfl, ⟨kU_mvH hk hU hW, tU_mvH hr_a hU hW⟩⟩⟩ rfl rfl hl.1 rfl (lv_room (Nat.le_of_ble_eq_true rfl)) dX5_ofPart_47 ⟨Nat.zero_le _, Nat.zero_le _⟩)) (fun r_47 hr_47 => ?_)
            subst hr_47
            refine lv_topl (fun v6_2 e_v6_2 => ?_)
            have hf : f_X5_ofPartR (q + 1) i a_n a_f x1 x2 x3 = (f_X2_plus i v6_2 (f_X5_ofPartR q i a_n a_f (x1 + v5_1) (x2 - v5_1) (x3 + (1 : Int32)))) := hf.trans (congrArg (fun z => (f_X2_plus i z (f_X5_ofPartR q i a_n a_f (x1 + v5_1) (x2 - v5_1) (x3 + (1 : Int32))))) e_v6_2.symm)
            refine lv_lstore (lv' := [(6, .long v6_2), (5, .int v5_1), (0, .ref (ad i)), (1, .ref a), (2, .int x1), (3, .int x2), (4, .int x3)]) hx hb dX5_ofPart_50 hl (by decide) rfl (fun ls hl => ?_)
            refine lv_aload_n hx hb dX5_ofPart_52 rfl (lv_at hl 2 rfl) ?_
            refine lv_aload_n hx hb dX5_ofPart_53 rfl (lv_at hl 3 rfl) ?_
            refine lv_iload_n hx hb dX5_ofPart_54 rfl (lv_at hl 4 rfl) ?_
            refine lv_iload hx hb dX5_ofPart_55 (lv_at hl 1 rfl) ?_
            refine lv_iadd hx hb dX5_ofPart_57 ?_
            refine lv_iload_n hx hb dX5_ofPart_58 rfl (lv_at hl 5 rfl) ?_
            refine lv_iload hx hb dX5_ofPart_59 (lv_at hl 1 rfl) ?_
            refine lv_isub hx hb dX5_ofPart_61 ?_
            refine lv_iload hx hb dX5_ofPart_62 (lv_at hl 6 rfl) ?_
            refine lv_iconst (v := 1) hx hb dX5_ofPart_64 (by decide) ?_
            refine lv_iadd hx hb dX5_ofPart_65 ?_
            refine vp_callSl (va_Run.run (va_runS (As := [.ref (ad i), .ref a, .int (x1 + v5_1), .int (x2 - v5_1), .int (x3 + (1 : Int32))]) (rest := []) ⟨hx, hb, hml, hown, hts⟩ (ih (x1 + v5_1) (x2 - v5_1) (x3 + (1 : Int32)) (hS_ hd c_19)) (va_cwS 5 hts (gS iX5_ofPart (zin__r25 (.methodLink RX5 16 yX5_ofPart) (List.mem_of_getElem? (i := 5) rfl))) rfl rfl rfl (by decide +kernel) ⟨(show 5 + q + 1 ≤ 5 + (q + 1) by omega), (show 8 + (10 + 11) + (132 + 29 * q) ≤ 132 + 29 * (q + 1) by omega)⟩) ⟨fun a U g mk q => ⟨q.1, kU_bl q.2.1, tU_bl q.2.2⟩, fun U hU hW => ⟨rfl, ⟨kU_mvH hk hU hW, tU_mvH hr_a hU hW⟩⟩⟩ rfl rfl hl.1 rfl (lv_room (Nat.le_of_ble_eq_true rfl)) dX5_ofPart_66 ⟨Nat.zero_le _, Nat.zero_le _⟩)) (fun r_66 hr_66 => ?_)
            subst hr_66
            refine lv_topl (fun v8_3 e_v8_3 => ?_)
            have hf : f_X5_ofPartR (q + 1) i a_n a_f x1 x2 x3 = (f_X2_plus i v6_2 v8_3) := hf.trans (congrArg (fun z => (f_X2_plus i v6_2 z)) e_v8_3.symm)
            refine lv_lstore (lv' := [(8, .long v8_3), (6, .long v6_2), (5, .int v5_1), (0, .ref (ad i)), (1, .ref a), (2, .int x1), (3, .int x2), (4, .int x3)]) hx hb dX5_ofPart_69 hl (by decide) rfl (fun ls hl => ?_)
            refine lv_aload_n hx hb dX5_ofPart_71 rfl (lv_at hl 3 rfl) ?_
            refine lv_lload hx hb dX5_ofPart_72 (lv_at hl 1 rfl) ?_
            refine lv_lload hx hb dX5_ofPart_74 (lv_at hl 0 rfl) ?_
            refine vp_callSl (va_Run.run (va_runS (As := [.ref (ad i), .long v6_2, .long v8_3]) (rest := []) ⟨hx, hb, hml, hown, hts⟩ (c_X2_plus l ad i h_i v6_2 v8_3) (va_cwS 3 hts (gS iX2_plus (zin__r24 (.methodLink RX5 7 yX2_plus) (List.mem_of_getElem? (i := 21) rfl))) rfl rfl rfl (by decide +kernel) ⟨(show 4 + 1 ≤ 5 + (q + 1) by omega), (show 8 + (6 + 11) + 107 ≤ 132 + 29 * (q + 1) by omega)⟩) ⟨fun a U g mk q => ⟨q.1, kU_bl q.2⟩, fun U hU hW => ⟨rfl, kU_mvH hk hU hW⟩⟩ rfl rfl hl.1 rfl (lv_room (Nat.le_of_ble_eq_true rfl)) dX5_ofPart_76 ⟨Nat.zero_le _, Nat.zero_le _⟩)) (fun r_76 hr_76 => ?_)
            subst hr_76
            exact W.lret hx hb hr (fun t ht hW => ⟨_, rfl, hf.symm, ht⟩) (fun q hq => absurd hq List.not_mem_nil) dX5_ofPart_79
          · have hf : f_X5_ofPartR (q + 1) i a_n a_f x1 x2 x3 = (a_f x1.toNatClampNeg) := hf.trans (if_pos c_26)
            refine lv_aload_n hx hb dX5_ofPart_29 rfl (lv_at hl 1 rfl) ?_
            refine lv_iload_n hx hb dX5_ofPart_30 rfl (lv_at hl 2 rfl) ?_
            refine va_tl hx hb hr_a va_S.rf (in_of hn c_6 c_12) (v := .long (a_f x1.toNatClampNeg)) rfl dX5_ofPart_31 ?_
            exact W.lret hx hb hr (fun t ht hW => ⟨_, rfl, hf.symm, ht⟩) (fun q hq => absurd hq List.not_mem_nil) dX5_ofPart_32
        · have hf : f_X5_ofPartR (q + 1) i a_n a_f x1 x2 x3 = (0 : Int64) := hf.trans (if_neg c_19)
          refine lv_lconst (v := 0) hx hb dX5_ofPart_22 (by decide) ?_
          exact W.lret hx hb hr (fun t ht hW => ⟨_, rfl, hf.symm, ht⟩) (fun q hq => absurd hq List.not_mem_nil) dX5_ofPart_23
def f_X5_ofPart (i a_n : Nat) (a_f : Nat → Int64) (x1 x2 x3 : Int32) : Int64 := f_X5_ofPartR 42 i a_n a_f x1 x2 x3
theorem c_X5_ofPart (l : Launch) (ad : Nat → Nat) (i : Nat) (h_i : i < 2) (a a_n : Nat) (a_f : Nat → Int64) (x1 x2 x3 : Int32) (hn : a_n ≤ 500) (hd : 0 ≤ x3.toInt ∧ 42 ≤ x3.toInt + ((42 : Nat) : Int) ∧ x3.toInt ≤ 41) : Met l yX5_ofPart zX5_ofPart ({ frames := 47, cells := 0, slots := 0, locals := 1350 }) (va_Pc [.ref (ad i), .ref a, .int x1, .int x2, .int x3] (fun U => kU ad U ∧ tU a a_n a_f U)) (vp_Sl (fun r => r = f_X5_ofPart i a_n a_f x1 x2 x3)) 0 0 (fun _ => False) := c_X5_ofPartR l ad i h_i a a_n a_f hn 42 x1 x2 x3 hd

def f_X5_halved (i a_n : Nat) (a_f : Nat → Int64) : Int64 := f_X5_ofPart i a_n a_f (0 : Int32) (nI a_n) (0 : Int32)
def zX5_halved : List Cond := .code yX5_halved cX5_halved 2 (some .long) :: zall
theorem iX5_halved : MWs yX5_halved (.code yX5_halved cX5_halved 2 (some .long)) := ⟨(zin__r25 (.static yX5_halved) (List.mem_of_getElem? (i := 3) rfl)), (zin__r24 (.initialized RX5) (List.mem_of_getElem? (i := 19) rfl)), (zin__r25 (.code yX5_halved cX5_halved 2 (some .long)) (List.mem_of_getElem? (i := 4) rfl))⟩
set_option maxHeartbeats 4000000 in
set_option maxRecDepth 100000 in
theorem c_X5_halved (l : Launch) (ad : Nat → Nat) (i : Nat) (h_i : i < 2) (a a_n : Nat) (a_f : Nat → Int64) (hn : a_n ≤ 500) : Met l yX5_halved zX5_halved ({ frames := 48, cells := 0, slots := 0, locals := 1380 }) (va_Pc [.ref (ad i), .ref a] (fun U => kU ad U ∧ tU a a_n a_f U)) (vp_Sl (fun r => r = f_X5_halved i a_n a_f)) 0 0 (fun _ => False) := by
  refine Met.ofW (cc := cX5_halved) (maxL := 2) (ret := (some .long)) (by decide) rfl ?_
  intro p e s m args below meth c s₁ B hml hv
  obtain ⟨rfl, hk, hr_a⟩ := hv
  have hx := B.exec
  have hb := B.bytes
  have hr := B.returns
  have hts : ∀ w ∈ zall, w.before _ s = true := fun w h => atoms_spec (ws := zX5_halved) B.pre w (List.mem_cons_of_mem _ h)
  have hown : s.vm.findClass RX5 = some m.cls := findClass_of_methodNamed B.named
  have hlocks := B.notSynchronized
  have hl := lv_entry ([.ref (ad i), .ref a]) (n := 2) (Nat.le_of_ble_eq_true rfl)
  rw [lg_entry_eq]
  generalize (lg_sl ([.ref (ad i), .ref a]) ++ List.replicate (2 - (lg_sl ([.ref (ad i), .ref a])).length) Slot.unset).toArray = ls at hl ⊢
  have hl : lv_has ls 2 [(0, .ref (ad i)), (1, .ref a)] := hl
  refine lv_aload_n hx hb dX5_halved_0 rfl (lv_at hl 0 rfl) ?_
  refine lv_aload_n hx hb dX5_halved_1 rfl (lv_at hl 1 rfl) ?_
  refine lv_iconst (v := 0) hx hb dX5_halved_2 (by decide) ?_
  refine lv_aload_n hx hb dX5_halved_3 rfl (lv_at hl 1 rfl) ?_
  refine va_tlen hx hb hr_a va_S.rf (v := (nI a_n)) rfl dX5_halved_4 ?_
  refine lv_iconst (v := 0) hx hb dX5_halved_5 (by decide) ?_
  refine vp_callSl (va_Run.run (va_runS (As := [.ref (ad i), .ref a, .int (0 : Int32), .int (nI a_n), .int (0 : Int32)]) (rest := []) ⟨hx, hb, hml, hown, hts⟩ (c_X5_ofPart l ad i h_i a a_n a_f (0 : Int32) (nI a_n) (0 : Int32) hn (by decide)) (va_cwS 5 hts (gS iX5_ofPart (zin__r25 (.methodLink RX5 16 yX5_ofPart) (List.mem_of_getElem? (i := 5) rfl))) rfl rfl rfl (by decide +kernel) ⟨Nat.le_of_ble_eq_true rfl, Nat.le_of_ble_eq_true rfl⟩) ⟨fun a U g mk q => ⟨q.1, kU_bl q.2.1, tU_bl q.2.2⟩, fun U hU hW => ⟨rfl, ⟨kU_mvH hk hU hW, tU_mvH hr_a hU hW⟩⟩⟩ rfl rfl hl.1 rfl (lv_room (Nat.le_of_ble_eq_true rfl)) dX5_halved_6 ⟨Nat.zero_le _, Nat.zero_le _⟩)) (fun r_6 hr_6 => ?_)
  subst hr_6
  exact W.lret hx hb hr (fun t ht hW => ⟨_, rfl, rfl, ht⟩) (fun q hq => absurd hq List.not_mem_nil) dX5_halved_9
