-- the static constants of Kind
def kZ (ad : Nat → Nat) (A : Nat → Prop) (U : State) (H : Heap) : Prop := va_Z "ReckonBench$Kind" "DOUBLE" "LReckonBench$Kind;" (.ref (ad 0)) A U H ∧ va_Z "ReckonBench$Kind" "SINGLE" "LReckonBench$Kind;" (.ref (ad 1)) A U H
theorem kZ.moved {ad : Nat → Nat} {A : Nat → Prop} {u U : State} {H : Heap} (hvm : u.vm.Alike U.vm) (h : kZ ad A u H) : kZ ad A U H := ⟨h.1.moved hvm, h.2.moved hvm⟩
theorem kZ_bl {ad : Nat → Nat} {A : Nat → Prop} {U : State} {g : JFrame} {m : MethodId} {a : Array Value} (h : kZ ad A U U.heap) : kZ ad A (U.calling g m a) (U.calling g m a).heap := kZ.moved (u := U) (U := U.calling g m a) (Vm.Alike.refl U.vm) h
theorem c_X3_initx (l : Launch) (dC : Nat → ClassId) (dI : Nat → Nat → Nat) (ad : Nat → Nat) (q k N : Nat) (hn : N ≤ 500) (sz : Nat) (x : Int32) (e : x = nI N) : Met l yX3_init zX3_init ({ frames := 1, cells := 1, slots := N, locals := 12 }) (va_Pc [.ref q, .ref (ad k), .int x] (fun U => U.heap.size = sz ∧ va_P (dC, dI) vwCl [(q, .inr (2, [.null, .null]))] U.heap ∧ va_K (dC, dI) vwCl [] U ∧ va_D (fun _ => True) [(q, .inr (2, [.null, .null]))])) (va_Qv (fun _ : Nat × ClassId => True) (fun u t => va_P (dC, dI) vwCl [(q, .inr (2, [.ref (ad k), .ref u.1])), (u.1, .inl (u.2, N, .inr (.inl (fun _ => 0))))] t.heap ∧ va_K (dC, dI) vwCl [(u.2, .long)] t ∧ va_D (va_A [(q, .inr (2, [.null, .null]))] sz) [(q, .inr (2, [.ref (ad k), .ref u.1])), (u.1, .inl (u.2, N, .inr (.inl (fun _ => 0))))]) (va_A [(q, .inr (2, [.null, .null]))] sz)) 1 N (va_A [(q, .inr (2, [.null, .null]))] sz) := by
  subst e
  exact c_X3_init l dC dI ad q k N hn sz
-- the bench with one more row
def updN (f : Nat → Nat) (k x : Nat) : Nat → Nat := fun j => if j = k then x else f j
abbrev cadd (S : CSt) (q na k : Nat) (x : Int32) : CSt := (cn S + 1, updN (ckd S) (cn S) k, updN (cln S) (cn S) x.toNatClampNeg, cbU (cbt S) (cn S) (fun _ => 0), updN (cro S) (cn S) q, updN (cna S) (cn S) na, cbe S, cme S, ccn S + x, crs S)
def cGo (ad : Nat → Nat) (o rw so ba ma : Nat) (cR cJ : ClassId) (S : CSt) (rc cc : Int32) (f : Nat → Option Nat) (q k na N : Nat) : va_W := [
  (o, .inr (4, [.ref rw, .ref so, .int rc, .int cc, .int (crs S)])),
  (rw, .inl (cR, 64, .inr (.inr (.inr (.inr f))))),
  (so, .inr (3, [.ref ba, .ref ma])), (ba, .inl (cJ, 500, .inr (.inl (cbe S)))), (ma, .inl (cJ, 500, .inr (.inl (cme S))))] ++ (((List.range (cn S)).map (cObj ad S) ++ (List.range (cn S)).map (cArr cJ S)) ++ [(q, .inr (2, [.ref (ad k), .ref na])), (na, .inl (cJ, N, .inr (.inl (fun _ => 0))))])
section CGO
variable {D : va_G} {ad : Nat → Nat} {o rw so ba ma : Nat} {cR cJ : ClassId} {S : CSt} {rc cc : Int32} {f : Nat → Option Nat} {q k na N : Nat} {H H1 : Heap} {A : Nat → Prop}
theorem cG_fix {i : Nat} (h : i < 5) : (cGo ad o rw so ba ma cR cJ S rc cc f q k na N)[i]? = ([(o, .inr (4, [.ref rw, .ref so, .int rc, .int cc, .int (crs S)])), (rw, .inl (cR, 64, .inr (.inr (.inr (.inr f))))), (so, .inr (3, [.ref ba, .ref ma])), (ba, .inl (cJ, 500, .inr (.inl (cbe S)))), (ma, .inl (cJ, 500, .inr (.inl (cme S))))] : va_W)[i]? := List.getElem?_append_left h
theorem cG_mid {i : Nat} (h : i < cn S + cn S) : (cGo ad o rw so ba ma cR cJ S rc cc f q k na N)[5 + i]? = ((List.range (cn S)).map (cObj ad S) ++ (List.range (cn S)).map (cArr cJ S))[i]? := by
  unfold cGo
  rw [List.getElem?_append_right (by show 5 ≤ 5 + i; omega)]
  rw [show 5 + i - ([(o, .inr (4, [.ref rw, .ref so, .int rc, .int cc, .int (crs S)])), (rw, .inl (cR, 64, .inr (.inr (.inr (.inr f))))), (so, .inr (3, [.ref ba, .ref ma])), (ba, .inl (cJ, 500, .inr (.inl (cbe S)))), (ma, .inl (cJ, 500, .inr (.inl (cme S))))] : va_W).length = i from by show 5 + i - 5 = i; omega]
  exact List.getElem?_append_left (by simp; omega)
theorem cG_obj {j : Nat} (h : j < cn S) : (cGo ad o rw so ba ma cR cJ S rc cc f q k na N)[5 + j]? = some (cObj ad S j) := by
  rw [cG_mid (by omega), List.getElem?_append_left (by simpa using h), List.getElem?_map, List.getElem?_range h]
  rfl
theorem cG_arr {j : Nat} (h : j < cn S) : (cGo ad o rw so ba ma cR cJ S rc cc f q k na N)[5 + (cn S + j)]? = some (cArr cJ S j) := by
  rw [cG_mid (by omega), List.getElem?_append_right (by simp), List.length_map, List.length_range, Nat.add_sub_cancel_left, List.getElem?_map, List.getElem?_range h]
  rfl
theorem cG_end {i : Nat} : (cGo ad o rw so ba ma cR cJ S rc cc f q k na N)[5 + (cn S + cn S + i)]? = ([(q, .inr (2, [.ref (ad k), .ref na])), (na, .inl (cJ, N, .inr (.inl (fun _ => 0))))] : va_W)[i]? := by
  unfold cGo
  rw [List.getElem?_append_right (by show 5 ≤ 5 + _; omega)]
  rw [show 5 + (cn S + cn S + i) - ([(o, .inr (4, [.ref rw, .ref so, .int rc, .int cc, .int (crs S)])), (rw, .inl (cR, 64, .inr (.inr (.inr (.inr f))))), (so, .inr (3, [.ref ba, .ref ma])), (ba, .inl (cJ, 500, .inr (.inl (cbe S)))), (ma, .inl (cJ, 500, .inr (.inl (cme S))))] : va_W).length = cn S + cn S + i from by show 5 + _ - 5 = _; omega]
  rw [List.getElem?_append_right (by simp)]
  congr 1
  simp
/-- a new row comes beside the bench -/
theorem cG_of (hP : va_P D vwCl (cWs ad o rw so ba ma cR cJ S ++ [(q, .inr (2, [.null, .null]))]) H) (hD : va_D A (cWs ad o rw so ba ma cR cJ S ++ [(q, .inr (2, [.null, .null]))])) (hk : ∀ z : Nat, z < H.size → ¬ va_A [(q, .inr (2, [.null, .null]))] H.size z → H1[z]? = H[z]?) (hF : ∀ z, va_A [(q, .inr (2, [.null, .null]))] H.size z → A z) (hP1 : va_P D vwCl [(q, .inr (2, [.ref (ad k), .ref na])), (na, .inl (cJ, N, .inr (.inl (fun _ => 0))))] H1) (hD1 : va_D (va_A [(q, .inr (2, [.null, .null]))] H.size) [(q, .inr (2, [.ref (ad k), .ref na])), (na, .inl (cJ, N, .inr (.inl (fun _ => 0))))]) :
    va_P D vwCl (cGo ad o rw so ba ma cR cJ S (nI (cn S)) (ccn S) (cRows S) q k na N) H1 ∧ va_D A (cGo ad o rw so ba ma cR cJ S (nI (cn S)) (ccn S) (cRows S) q k na N) := by
  have eq : cGo ad o rw so ba ma cR cJ S (nI (cn S)) (ccn S) (cRows S) q k na N = cWs ad o rw so ba ma cR cJ S ++ [(q, .inr (2, [.ref (ad k), .ref na])), (na, .inl (cJ, N, .inr (.inl (fun _ => 0))))] := by
    unfold cGo cWs cFix
    exact (List.append_assoc _ _ _).symm
  have hl : ∀ (i : Nat) (x : Nat × va_E), (cWs ad o rw so ba ma cR cJ S)[i]? = some x → (cWs ad o rw so ba ma cR cJ S ++ [(q, .inr (2, [.null, .null]))])[i]? = some x := fun i x h => by
    rw [List.getElem?_append_left (List.getElem?_eq_some_iff.mp h).1]; exact h
  have hq : (cWs ad o rw so ba ma cR cJ S ++ [(q, .inr (2, [.null, .null]))])[(cWs ad o rw so ba ma cR cJ S).length]? = some (q, .inr (2, [.null, .null])) := by
    rw [List.getElem?_append_right (Nat.le_refl _), Nat.sub_self]; rfl
  have ap : ∀ (i : Nat) (x : Nat × va_E), (cWs ad o rw so ba ma cR cJ S)[i]? = some x → x.1 < H.size ∧ ¬ va_A [(q, .inr (2, [.null, .null]))] H.size x.1 := by
    intro i x h
    have h1 := va_at.lt (hP i x (hl i x h))
    refine ⟨h1, fun z => ?_⟩
    rcases z with ⟨k9, e, z⟩ | z
    · rcases k9 with _ | k9
      · have e2 : q = x.1 := congrArg Prod.fst (Option.some.inj z)
        have := hD.1 i _ x _ (hl i x h) hq e2.symm
        have h3 := (List.getElem?_eq_some_iff.mp h).1
        omega
      · cases z
    · omega
  rw [eq]
  refine ⟨va_P.app (fun i x h => (hP i x (hl i x h)).kept (hk x.1 (ap i x h).1 (ap i x h).2)) hP1, va_D.app ⟨fun i j x y h1 h2 e => hD.1 i j x y (hl i x h1) (hl j y h2) e, fun i x h => hD.2 i x (hl i x h)⟩ (hD1.weaken (fun _ x _ h => hF x.1 h)) (fun i j x y hx hy e => ?_)⟩
  exact (ap i x hx).2 (by rw [e]; exact hD1.2 j y hy)
theorem cG_free {H0 : Heap} {locs : List Loc} (hD : va_D A (cWs ad o rw so ba ma cR cJ S ++ [(q, .inr (2, [.null, .null]))])) (hS : va_S A H0 H locs) (hA : ∀ z, H0.size ≤ z → A z) : ∀ z, va_A [(q, .inr (2, [.null, .null]))] H.size z → A z := by
  refine va_free hD hS hA [(cWs ad o rw so ba ma cR cJ S).length] ?_
  show [(cWs ad o rw so ba ma cR cJ S ++ [(q, .inr (2, [.null, .null]))])[(cWs ad o rw so ba ma cR cJ S).length]?] = _
  rw [List.getElem?_append_right (Nat.le_refl _), Nat.sub_self]
  rfl
theorem cG_last (hP : va_P D vwCl (cWs ad o rw so ba ma cR cJ S ++ [(q, .inr (2, [.null, .null]))]) H) : va_P D vwCl [(q, .inr (2, [.null, .null]))] H := by
  refine cut_P hP (is := [(cWs ad o rw so ba ma cR cJ S).length]) ?_
  show [(cWs ad o rw so ba ma cR cJ S ++ [(q, .inr (2, [.null, .null]))])[(cWs ad o rw so ba ma cR cJ S).length]?] = _
  rw [List.getElem?_append_right (Nat.le_refl _), Nat.sub_self]
  rfl
theorem va_D_one {q : Nat} {e : va_E} : va_D (fun _ => True) [(q, e)] := by
  refine ⟨fun i j x y h1 h2 _ => ?_, fun _ _ _ => trivial⟩
  have a := (List.getElem?_eq_some_iff.mp h1).1
  have b := (List.getElem?_eq_some_iff.mp h2).1
  simp at a b
  omega
theorem cRows_add : va_up (cRows S) (cn S) (some q) = cRows (cadd S q na k (nI N)) := by
  funext j
  show (if j = cn S then some q else if j < cn S then some (cro S j) else none) = if j < cn S + 1 then some (if j = cn S then q else cro S j) else none
  by_cases h : j = cn S
  · rw [if_pos h, if_pos (by omega), if_pos h]
  · rw [if_neg h, if_neg h]
    by_cases h2 : j < cn S
    · rw [if_pos h2, if_pos (by omega)]
    · rw [if_neg h2, if_neg (by omega)]
theorem cG_same (hN : N ≤ 500) {i : Nat} {x : Nat × va_E} (h : (cWs ad o rw so ba ma cR cJ (cadd S q na k (nI N)))[i]? = some x) : ∃ (i' : Nat), (cGo ad o rw so ba ma cR cJ S (nI (cn S + 1)) (ccn S + nI N) (va_up (cRows S) (cn S) (some q)) q k na N)[i']? = some x ∧ i = (if i' < 5 + cn S then i' else if i' < 5 + (cn S + cn S) then i' + 1 else if i' = 5 + (cn S + cn S) then 5 + cn S else i') := by
  rcases cP_cases h with ⟨h1, h2⟩ | ⟨j, h1, rfl, rfl⟩ | ⟨j, h1, rfl, rfl⟩
  · refine ⟨i, ?_, ?_⟩
    · rw [cG_fix h1, cRows_add (na := na) (k := k) (N := N), ← h2]
      rfl
    · rw [if_pos (by omega)]
  · have h1 : j < cn S + 1 := h1
    by_cases e : j = cn S
    · subst e
      refine ⟨5 + (cn S + cn S + 0), ?_, ?_⟩
      · rw [cG_end]
        show some _ = some (updN (cro S) (cn S) q (cn S), Sum.inr (2, [Value.ref (ad (updN (ckd S) (cn S) k (cn S))), Value.ref (updN (cna S) (cn S) na (cn S))]))
        unfold updN
        rw [if_pos rfl, if_pos rfl, if_pos rfl]
      · rw [if_neg (by omega), if_neg (by omega), if_pos (by omega)]
    · refine ⟨5 + j, ?_, ?_⟩
      · rw [cG_obj (by omega)]
        show some (cro S j, Sum.inr (2, [Value.ref (ad (ckd S j)), Value.ref (cna S j)])) = some (updN (cro S) (cn S) q j, Sum.inr (2, [Value.ref (ad (updN (ckd S) (cn S) k j)), Value.ref (updN (cna S) (cn S) na j)]))
        unfold updN
        rw [if_neg e, if_neg e, if_neg e]
      · rw [if_pos (by omega)]
  · have h1 : j < cn S + 1 := h1
    by_cases e : j = cn S
    · subst e
      refine ⟨5 + (cn S + cn S + 1), ?_, ?_⟩
      · rw [cG_end]
        show some _ = some (updN (cna S) (cn S) na (cn S), Sum.inl (cJ, updN (cln S) (cn S) (nI N).toNatClampNeg (cn S), Sum.inr (Sum.inl (cbU (cbt S) (cn S) (fun _ => 0) (cn S)))))
        unfold updN cbU
        rw [if_pos rfl, if_pos rfl, if_pos rfl, nI_clamp (by omega)]
      · show 5 + (cn S + 1) + cn S = _
        rw [if_neg (by omega), if_neg (by omega), if_neg (by omega)]
        omega
    · refine ⟨5 + (cn S + j), ?_, ?_⟩
      · rw [cG_arr (by omega)]
        show some (cna S j, Sum.inl (cJ, cln S j, Sum.inr (Sum.inl (cbt S j)))) = some (updN (cna S) (cn S) na j, Sum.inl (cJ, updN (cln S) (cn S) (nI N).toNatClampNeg j, Sum.inr (Sum.inl (cbU (cbt S) (cn S) (fun _ => 0) j))))
        unfold updN cbU
        rw [if_neg e, if_neg e, if_neg e]
      · show 5 + (cn S + 1) + j = _
        rw [if_neg (by omega), if_pos (by omega)]
        omega
theorem cG_done (hN : N ≤ 500) (hP : va_P D vwCl (cGo ad o rw so ba ma cR cJ S (nI (cn S + 1)) (ccn S + nI N) (va_up (cRows S) (cn S) (some q)) q k na N) H) (hD : va_D A (cGo ad o rw so ba ma cR cJ S (nI (cn S + 1)) (ccn S + nI N) (va_up (cRows S) (cn S) (some q)) q k na N)) : va_P D vwCl (cWs ad o rw so ba ma cR cJ (cadd S q na k (nI N))) H ∧ va_D A (cWs ad o rw so ba ma cR cJ (cadd S q na k (nI N))) := by
  refine ⟨fun i x h => ?_, fun i j x y h1 h2 e => ?_, fun i x h => ?_⟩
  · obtain ⟨i', g1, -⟩ := cG_same hN h
    exact hP i' x g1
  · obtain ⟨i', g1, g2⟩ := cG_same hN h1
    obtain ⟨j', g3, g4⟩ := cG_same hN h2
    have := hD.1 i' j' x y g1 g3 e
    subst this
    rw [g2, g4]
  · obtain ⟨i', g1, -⟩ := cG_same hN h
    exact hD.2 i' x g1
end CGO
theorem row_n {x : Int32} (h1 : ¬ x < 1) (h2 : x ≤ 500) : ∃ N : Nat, 1 ≤ N ∧ N ≤ 500 ∧ x = nI N := by
  rw [Int32.lt_iff_toInt_lt] at h1
  rw [Int32.le_iff_toInt_le] at h2
  have e1 : (1 : Int32).toInt = 1 := by decide
  have e2 : (500 : Int32).toInt = 500 := by decide
  obtain ⟨q, hq, rfl⟩ := nI_of (x := x) (by rw [Int32.lt_iff_toInt_lt]; have : (0 : Int32).toInt = 0 := (by decide); omega)
  rw [nI_toInt hq] at h1 h2
  exact ⟨q, by omega, by omega, rfl⟩
theorem row_lt {S : CSt} (hI : cInv S) (h : ¬ (64 : Int32) ≤ nI (cn S)) : cn S < 64 := by
  rw [Int32.le_iff_toInt_le, nI_toInt (by have := hI.1; omega)] at h
  have e : (64 : Int32).toInt = 64 := by decide
  omega

