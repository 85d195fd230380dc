-- a row of the bench: where it is, and what a write to it does
def cInv (S : CSt) : Prop := cn S ≤ 64 ∧ ∀ j, j < cn S → ckd S j < 2 ∧ 1 ≤ cln S j ∧ cln S j ≤ 500
theorem cRow_lt {S : CSt} (hI : cInv S) {x : Int32} (h : 0 ≤ x ∧ x < nI (cn S)) : x.toNatClampNeg < cn S := by
  have h1 := hI.1
  obtain ⟨j, hj, rfl⟩ := nI_of (x := x) (by rw [Int32.lt_iff_toInt_lt]; have := Int32.le_iff_toInt_le.mp h.1; omega)
  rw [nI_clamp hj]
  exact (nI_ltI hj (by omega)).mp h.2
theorem has_def (k n : Nat) (f : Nat → Int64) (x : Int32) : f_X3_has k n f x = if x < 0 then (0 : Int32) else if nI n ≤ x then (0 : Int32) else (1 : Int32) := rfl
theorem has_in {k n : Nat} {f : Nat → Int64} {x : Int32} (hn : n ≤ 500) (h : ¬ f_X3_has k n f x = 0) : vp_in x n := by
  rw [has_def] at h
  by_cases h1 : x < 0
  · rw [if_pos h1] at h; exact absurd rfl h
  · rw [if_neg h1] at h
    by_cases h2 : nI n ≤ x
    · rw [if_pos h2] at h; exact absurd rfl h
    · obtain ⟨q, hq, rfl⟩ := nI_of h1
      rw [nI_leI (by omega) hq] at h2
      exact vp_in_nI (by omega) (by omega)
theorem ad_inj {ad : Nat → Nat} (had : ¬ ad 0 = ad 1) {i j : Nat} (hi : i < 2) (hj : j < 2) (h : ad i = ad j) : i = j := by
  rcases two_of hi with rfl | rfl <;> rcases two_of hj with rfl | rfl
  · rfl
  · exact absurd h had
  · exact absurd h.symm had
  · rfl
section CROW
variable {D : va_G} {ad : Nat → Nat} {o rw so ba ma : Nat} {cR cJ : ClassId} {S : CSt} {s U : State} {H H1 : Heap} {A : Nat → Prop} {H0 : Heap} {locs : List Loc} {j : Nat} {f1 : Nat → Int64}
theorem cRow_free (hD : va_D A (cWs ad o rw so ba ma cR cJ S)) (hS : va_S A H0 H locs) (hA : ∀ q, H0.size ≤ q → A q) (hj : j < cn S) : ∀ q, va_A (rWs ad (cro S j) (ckd S j) (cna S j) (cln S j) cJ (cbt S j)) H.size q → A q := by
  intro q h
  rcases h with ⟨k, e, h⟩ | h
  · match k, h with
    | 0, h =>
      have h2 := congrArg Prod.fst (Option.some.inj h)
      have := hD.2 (5 + j) _ (cP_obj hj)
      exact (show cro S j = q from h2) ▸ this
    | 1, h =>
      have h2 := congrArg Prod.fst (Option.some.inj h)
      have := hD.2 (5 + cn S + j) _ (cP_arr hj)
      exact (show cna S j = q from h2) ▸ this
    | k + 2, h => cases h
  · exact hA q (Nat.le_trans hS.1 h)
theorem rB_mv {dC : Nat → ClassId} {dI : Nat → Nat → Nat} (hw : cH dC dI ad o rw so ba ma cR cJ S s H) (hD : va_D A (cWs ad o rw so ba ma cR cJ S)) (hk : kA ad (va_A (rWs ad (cro S j) (ckd S j) (cna S j) (cln S j) cJ (cbt S j)) H.size) s H) (hj : j < cn S) (hU : U.heap = H) (hW : s.WarmedH U.vm) : rB dC dI ad (cro S j) (ckd S j) (cna S j) (cln S j) cJ H.size (cbt S j) U := by
  have hP : va_P (dC, dI) vwCl (rWs ad (cro S j) (ckd S j) (cna S j) (cln S j) cJ (cbt S j)) H := by
    intro k q h
    match k, h with
    | 0, h => cases h; exact hw.1 (5 + j) _ (cP_obj hj)
    | 1, h => cases h; exact hw.1 (5 + cn S + j) _ (cP_arr hj)
    | k + 2, h => cases h
  refine ⟨by rw [hU], by rw [hU]; exact hP, (va_K.moved hW.alike hw.2).sub [1] rfl, ⟨?_, fun _ _ _ => trivial⟩, by rw [hU]; exact kA.moved hW.alike hk⟩
  intro i i' p p' h h' e
  match i, i', h, h' with
  | 0, 0, _, _ => rfl
  | 1, 1, _, _ => rfl
  | 0, 1, h, h' =>
    cases h; cases h'
    have := hD.1 (5 + j) (5 + cn S + j) _ _ (cP_obj hj) (cP_arr hj) e
    omega
  | 1, 0, h, h' =>
    cases h; cases h'
    have := hD.1 (5 + cn S + j) (5 + j) _ _ (cP_arr hj) (cP_obj hj) e
    omega
  | 0, i + 2, _, h' => cases h'
  | 1, i + 2, _, h' => cases h'
  | i + 2, _, h, _ => cases h
/-- a cell that isn't the row's stays -/
theorem cRow_kept (hP : va_P D vwCl (cWs ad o rw so ba ma cR cJ S) H) (hD : va_D A (cWs ad o rw so ba ma cR cJ S)) (hj : j < cn S) (hk : ∀ q : Nat, q < H.size → ¬ va_A (rWs ad (cro S j) (ckd S j) (cna S j) (cln S j) cJ (cbt S j)) H.size q → H1[q]? = H[q]?) {k : Nat} {q : Nat × va_E} (h : (cWs ad o rw so ba ma cR cJ S)[k]? = some q) (h1 : k ≠ 5 + j) (h2 : k ≠ 5 + cn S + j) : H1[q.1]? = H[q.1]? := by
  have hl := (hP k q h).lt
  refine hk q.1 hl (fun hz => ?_)
  rcases hz with ⟨i, e, hz⟩ | hz
  · match i, hz with
    | 0, hz => exact h1 (hD.1 k (5 + j) q _ h (cP_obj hj) (congrArg Prod.fst (Option.some.inj hz)).symm)
    | 1, hz => exact h2 (hD.1 k (5 + cn S + j) q _ h (cP_arr hj) (congrArg Prod.fst (Option.some.inj hz)).symm)
    | i + 2, hz => cases hz
  · omega
/-- the worlds that differ in a row's numbers stand at the same addresses -/
theorem cSame (hj : j < cn S) {k : Nat} {q : Nat × va_E} (h : (cWs ad o rw so ba ma cR cJ (cset_bt S j f1))[k]? = some q) : ∃ q0, (cWs ad o rw so ba ma cR cJ S)[k]? = some q0 ∧ q0.1 = q.1 := by
  rcases cP_cases h with ⟨h1, h2⟩ | ⟨i, h1, rfl, rfl⟩ | ⟨i, h1, rfl, rfl⟩
  · exact ⟨q, by rw [cP_fix h1]; exact h2, rfl⟩
  · exact ⟨_, cP_obj (S := S) h1, rfl⟩
  · exact ⟨_, cP_arr (S := S) h1, rfl⟩
theorem cW_put (hP : va_P D vwCl (cWs ad o rw so ba ma cR cJ S) H) (hD : va_D A (cWs ad o rw so ba ma cR cJ S)) (hj : j < cn S) (hP1 : va_P D vwCl (rWs ad (cro S j) (ckd S j) (cna S j) (cln S j) cJ f1) H1) (hk : ∀ q : Nat, q < H.size → ¬ va_A (rWs ad (cro S j) (ckd S j) (cna S j) (cln S j) cJ (cbt S j)) H.size q → H1[q]? = H[q]?) : va_P D vwCl (cWs ad o rw so ba ma cR cJ (cset_bt S j f1)) H1 ∧ va_D A (cWs ad o rw so ba ma cR cJ (cset_bt S j f1)) := by
  constructor
  · intro k q h
    rcases cP_cases h with ⟨h1, h2⟩ | ⟨i, h1, rfl, rfl⟩ | ⟨i, h1, rfl, rfl⟩
    · have h3 : (cWs ad o rw so ba ma cR cJ S)[k]? = some q := by rw [cP_fix h1]; exact h2
      exact (hP k q h3).kept (cRow_kept hP hD hj hk h3 (by omega) (by omega))
    · by_cases e : i = j
      · subst e; exact hP1 0 _ rfl
      · exact (hP (5 + i) _ (cP_obj (S := S) h1)).kept (cRow_kept hP hD hj hk (cP_obj (S := S) h1) (by omega) (by have : i < cn S := h1; omega))
    · by_cases e : i = j
      · subst e
        have := hP1 1 _ rfl
        show va_at D vwCl (cna S i, .inl (cJ, cln S i, .inr (.inl (cbU (cbt S) i f1 i)))) H1
        unfold cbU
        rw [if_pos rfl]
        exact this
      · have h3 := hP (5 + cn S + i) _ (cP_arr (S := S) h1)
        have h4 := h3.kept (cRow_kept hP hD hj hk (cP_arr (S := S) h1) (by omega) (by omega))
        show va_at D vwCl (cna S i, .inl (cJ, cln S i, .inr (.inl (cbU (cbt S) j f1 i)))) H1
        unfold cbU
        rw [if_neg e]
        exact h4
  · refine ⟨fun i i' p p' h h' e => ?_, fun k q h => ?_⟩
    · obtain ⟨q0, g1, g2⟩ := cSame hj h
      obtain ⟨q1, g3, g4⟩ := cSame hj h'
      exact hD.1 i i' q0 q1 g1 g3 (by rw [g2, g4]; exact e)
    · obtain ⟨q0, g1, g2⟩ := cSame hj h
      rw [← g2]
      exact hD.2 k q0 g1
end CROW
def zX6_rowAt : List Cond := .code yX6_rowAt cX6_rowAt 2 (some (.object "ReckonBench$Row")) :: zall
theorem iX6_rowAt : MWv RX6 yX6_rowAt (.code yX6_rowAt cX6_rowAt 2 (some (.object "ReckonBench$Row"))) := ⟨(zin__r3 (.instanceMethod yX6_rowAt) (List.mem_of_getElem? (i := 10) rfl)), (zin__r3 (.selects RX6 yX6_rowAt yX6_rowAt) (List.mem_of_getElem? (i := 11) rfl)), (zin__r1 (.initialized RX6) (List.mem_of_getElem? (i := 2) rfl)), (zin__r3 (.code yX6_rowAt cX6_rowAt 2 (some (.object "ReckonBench$Row"))) (List.mem_of_getElem? (i := 12) rfl))⟩
set_option maxHeartbeats 4000000 in
set_option maxRecDepth 100000 in
theorem c_X6_rowAt (l : Launch) (dC : Nat → ClassId) (dI : Nat → Nat → Nat) (ad : Nat → Nat) (o rw so ba ma : Nat) (cR cJ : ClassId) (S : CSt) (x1 : Int32) (hI : cInv S) : Met l yX6_rowAt zX6_rowAt ({ frames := 0, cells := 0, slots := 0, locals := 0 }) (va_Pc [.ref o, .int x1] (fun U => cW dC dI ad o rw so ba ma cR cJ S U)) (va_Sq (fun r => r = if 0 ≤ x1 ∧ x1 < nI (cn S) then some (cro S x1.toNatClampNeg) else none)) 0 0 (fun _ => False) := by
  refine Met.ofW (cc := cX6_rowAt) (maxL := 2) (ret := (some (.object "ReckonBench$Row"))) (by decide) rfl ?_
  intro p e s m args below meth c s₁ B hml hv
  obtain ⟨rfl, hw⟩ := hv
  have hx := B.exec
  have hb := B.bytes
  have hr := B.returns
  have hts : ∀ w ∈ zall, w.before _ s = true := fun w h => atoms_spec (ws := zX6_rowAt) B.pre w (List.mem_cons_of_mem _ h)
  have hown : s.vm.findClass RX6 = some m.cls := findClass_of_methodNamed B.named
  have hlocks := B.notSynchronized
  obtain ⟨hP, hK⟩ := id hw
  have hl := lv_entry ([.ref o, .int x1]) (n := 2) (Nat.le_of_ble_eq_true rfl)
  rw [lg_entry_eq]
  generalize (lg_sl ([.ref o, .int x1]) ++ List.replicate (2 - (lg_sl ([.ref o, .int x1])).length) Slot.unset).toArray = ls at hl ⊢
  have hl : lv_has ls 2 [(0, .ref o), (1, .int x1)] := hl
  refine lv_iload_n hx hb dX6_rowAt_0 rfl (lv_at hl 1 rfl) ?_
  refine W_cut (α := Unit) (pcJ := 21) (nL := 2) (fun _ => ¬ (0 ≤ x1 ∧ x1 < nI (cn S))) (fun _ => []) (fun _ => [(0, .ref o), (1, .int x1)]) (fun v ls hno hl => ?_) (fun K_21 => ?_)
  · refine lv_null hx hb dX6_rowAt_21 ?_
    exact W.aret (v := .null) hx hb hr (Or.inl ⟨_, rfl⟩) (Or.inl rfl) (fun t ht hW => ⟨none, rfl, (if_neg hno).symm, ht⟩) (fun q hq => absurd hq List.not_mem_nil) dX6_rowAt_22
  refine lv_if_lt (tgt := 21) hx hb dX6_rowAt_1 (by decide) (fun c_1 => ?_) (fun c_1 => ?_)
  · exact K_21 () ls (fun h => by have h1 := Int32.le_iff_toInt_le.mp h.1; have h2 := Int32.lt_iff_toInt_lt.mp c_1; omega) hl
  refine lv_iload_n hx hb dX6_rowAt_4 rfl (lv_at hl 1 rfl) ?_
  refine lv_aload_n hx hb dX6_rowAt_5 rfl (lv_at hl 0 rfl) ?_
  refine va_get (D := (dC, dI)) (ci := 4) (v := .int (nI (cn S))) (C := RX6) (T := TX6) (N := 5) hx hb hts zin_X6 hown hK hP 0 rfl rfl 2 (by decide) (hts _ (zin__r1 (.fieldLink RX6 22 "ReckonBench" "rowCount" "I") (List.mem_of_getElem? (i := 16) rfl))) (fun _ h9 => h9) rfl dX6_rowAt_6 ?_
  refine lv_icmp_ge (tgt := 21) hx hb dX6_rowAt_9 (by decide) (fun c_9 => ?_) (fun c_9 => ?_)
  · exact K_21 () ls (fun h => by have h1 := Int32.le_iff_toInt_le.mp c_9; have h2 := Int32.lt_iff_toInt_lt.mp h.2; omega) hl
  have hc : 0 ≤ x1 ∧ x1 < nI (cn S) := ⟨by rw [Int32.lt_iff_toInt_lt] at c_1; rw [Int32.le_iff_toInt_le]; omega, lt_of_nle c_9⟩
  have hj := cRow_lt hI hc
  refine lv_aload_n hx hb dX6_rowAt_12 rfl (lv_at hl 0 rfl) ?_
  refine va_get (D := (dC, dI)) (ci := 4) (v := .ref rw) (C := RX6) (T := TX6) (N := 5) hx hb hts zin_X6 hown hK hP 0 rfl rfl 0 (by decide) (hts _ (zin__r1 (.fieldLink RX6 11 "ReckonBench" "rows" "[LReckonBench$Row;") (List.mem_of_getElem? (i := 11) rfl))) (fun _ h9 => h9) rfl dX6_rowAt_13 ?_
  refine lv_iload_n hx hb dX6_rowAt_16 rfl (lv_at hl 1 rfl) ?_
  have h1 := hI.1
  have hin : vp_in x1 64 := by
    obtain ⟨q, hq, rfl⟩ := nI_of c_1
    rw [nI_clamp hq] at hj
    exact vp_in_nI (by omega) (by decide)
  refine va_aldq (f := cRows S) hx hb hK hP 1 0 rfl rfl hin dX6_rowAt_17 ?_
  refine lv_goto (tgt := 22) hx hb dX6_rowAt_18 (by decide) ?_
  have hR : cRows S x1.toNatClampNeg = some (cro S x1.toNatClampNeg) := if_pos hj
  exact W.aret (v := va_rf (cRows S x1.toNatClampNeg)) hx hb hr (Or.inl ⟨_, rfl⟩) (va_rf_or _) (fun t ht hW => ⟨_, rfl, by rw [if_pos hc, hR], ht⟩) (fun q hq => absurd hq List.not_mem_nil) dX6_rowAt_22

