-- the class's world
theorem va_freeAll {A0 : Nat → Prop} {ws : va_W} {H0 H : Heap} {locs : List Loc} (hD : va_D A0 ws) (hS : va_S A0 H0 H locs) (hA : ∀ q, H0.size ≤ q → A0 q) : ∀ q, va_A ws H.size q → A0 q := by
  intro q h
  rcases h with ⟨k, e, h⟩ | h
  · exact hD.2 k (q, e) h
  · exact hA q (Nat.le_trans hS.1 h)
theorem kA_at {ad : Nat → Nat} {A : Nat → Prop} {s : State} {H : Heap} {locs : List Loc} (h : kA ad A s s.heap) (hS : va_S A s.heap H locs) : kA ad nA s H := (h.kept hS.2.1).narrow (fun _ h => h.elim)
theorem kA_in {ad : Nat → Nat} {A B : Nat → Prop} {s : State} {H : Heap} {locs : List Loc} (h : kA ad A s s.heap) (hS : va_S A s.heap H locs) (hB : ∀ q, B q → A q) : kA ad B s H := (h.kept hS.2.1).narrow hB
def iA (h : Nat) (ad : Nat → Nat) (k : Nat) (lo hi : Int64) (A : Nat → Prop) (U : State) (H : Heap) : Prop := va_O "ReckonBench$Interval" h A U H ∧ va_OF "ReckonBench$Interval" "kind" "LReckonBench$Kind;" (.ref (ad k)) h A U H ∧ va_OF "ReckonBench$Interval" "low" "J" (.long lo) h A U H ∧ va_OF "ReckonBench$Interval" "high" "J" (.long hi) h A U H
theorem iA.moved {h : Nat} {ad : Nat → Nat} {k : Nat} {lo hi : Int64} {A : Nat → Prop} {u U : State} {H : Heap} (hvm : u.vm.Alike U.vm) (q : iA h ad k lo hi A u H) : iA h ad k lo hi A U H := ⟨q.1.moved hvm, q.2.1.moved hvm, q.2.2.1.moved hvm, q.2.2.2.moved hvm⟩
theorem iA.kept {h : Nat} {ad : Nat → Nat} {k : Nat} {lo hi : Int64} {A : Nat → Prop} {U : State} {H H1 : Heap} (q : iA h ad k lo hi A U H) (hq : ∀ a : Nat, a < H.size → ¬ A a → H1[a]? = H[a]?) : iA h ad k lo hi A U H1 := ⟨q.1.kept hq, q.2.1.kept hq, q.2.2.1.kept hq, q.2.2.2.kept hq⟩
theorem iA.narrow {h : Nat} {ad : Nat → Nat} {k : Nat} {lo hi : Int64} {A B : Nat → Prop} {U : State} {H : Heap} (q : iA h ad k lo hi A U H) (hAB : ∀ q, B q → A q) : iA h ad k lo hi B U H := ⟨q.1.narrow hAB, q.2.1.narrow hAB, q.2.2.1.narrow hAB, q.2.2.2.narrow hAB⟩
theorem iA_at {h : Nat} {ad : Nat → Nat} {k : Nat} {lo hi : Int64} {A : Nat → Prop} {s : State} {H : Heap} {locs : List Loc} (q : iA h ad k lo hi A s s.heap) (hS : va_S A s.heap H locs) : iH h ad k lo hi s H := (q.kept hS.2.1).narrow (fun _ h => h.elim)
theorem iH_kept {h : Nat} {ad : Nat → Nat} {k : Nat} {lo hi : Int64} {U : State} {H H1 : Heap} (q : iH h ad k lo hi U H) (hq : ∀ a : Nat, a < H.size → H1[a]? = H[a]?) : iH h ad k lo hi U H1 := iA.kept (A := nA) q (fun a h _ => hq a h)
theorem rH_kept {h : Nat} {ad : Nat → Nat} {k na n : Nat} {f : Nat → Int64} {U : State} {H H1 : Heap} (q : rH h ad k na n f U H) (hq : ∀ a : Nat, a < H.size → H1[a]? = H[a]?) : rH h ad k na n f U H1 := ⟨q.1.kept (fun a h _ => hq a h), q.2.1.kept (fun a h _ => hq a h), q.2.2.1.kept (fun a h _ => hq a h), q.2.2.2.kept (fun a h _ => hq a h)⟩
theorem kA_kept {ad : Nat → Nat} {U : State} {H H1 : Heap} (q : kA ad nA U H) (hq : ∀ a : Nat, a < H.size → H1[a]? = H[a]?) : kA ad nA U H1 := kA.kept q (fun a h _ => hq a h)
-- one row alone, its numbers written
def rWs (ad : Nat → Nat) (w w_k w_na w_n : Nat) (cJ : ClassId) (f : Nat → Int64) : va_W := [(w, .inr (2, [.ref (ad w_k), .ref w_na])), (w_na, .inl (cJ, w_n, .inr (.inl f)))]
def rWH (dC : Nat → ClassId) (dI : Nat → Nat → Nat) (ad : Nat → Nat) (w w_k w_na w_n : Nat) (cJ : ClassId) (f : Nat → Int64) (U : State) (H : Heap) : Prop := va_P (dC, dI) vwCl (rWs ad w w_k w_na w_n cJ f) H ∧ va_K (dC, dI) vwCl [(cJ, .long)] U
def rB (dC : Nat → ClassId) (dI : Nat → Nat → Nat) (ad : Nat → Nat) (w w_k w_na w_n : Nat) (cJ : ClassId) (sz : Nat) (f : Nat → Int64) (U : State) : Prop := U.heap.size = sz ∧ va_P (dC, dI) vwCl (rWs ad w w_k w_na w_n cJ f) U.heap ∧ va_K (dC, dI) vwCl [(cJ, .long)] U ∧ va_D (fun _ => True) (rWs ad w w_k w_na w_n cJ f) ∧ kA ad (va_A (rWs ad w w_k w_na w_n cJ f) sz) U U.heap
def rE (dC : Nat → ClassId) (dI : Nat → Nat → Nat) (ad : Nat → Nat) (w w_k w_na w_n : Nat) (cJ : ClassId) (A : Nat → Prop) (f : Nat → Int64) (t : State) : Prop := va_P (dC, dI) vwCl (rWs ad w w_k w_na w_n cJ f) t.heap ∧ va_K (dC, dI) vwCl [(cJ, .long)] t ∧ va_D A (rWs ad w w_k w_na w_n cJ f)
theorem rB_bl {dC : Nat → ClassId} {dI : Nat → Nat → Nat} {ad : Nat → Nat} {w w_k w_na w_n : Nat} {cJ : ClassId} {sz : Nat} {f : Nat → Int64} {U : State} {g : JFrame} {m : MethodId} {a : Array Value} (h : rB dC dI ad w w_k w_na w_n cJ sz f U) : rB dC dI ad w w_k w_na w_n cJ sz f (U.calling g m a) := ⟨h.1, h.2.1, va_K.moved (u := U) (U := U.calling g m a) (Vm.Alike.refl U.vm) h.2.2.1, h.2.2.2.1, kA.moved (u := U) (U := U.calling g m a) (Vm.Alike.refl U.vm) h.2.2.2.2⟩
-- the whole bench: how many rows, their kinds, lengths, numbers, where they stand; the sorter's two rows; how many numbers; why refused
abbrev CSt : Type := Nat × (Nat → Nat) × (Nat → Nat) × (Nat → Nat → Int64) × (Nat → Nat) × (Nat → Nat) × (Nat → Int64) × (Nat → Int64) × Int32 × Int32
abbrev cn (S : CSt) : Nat := S.1
abbrev ckd (S : CSt) : Nat → Nat := S.2.1
abbrev cln (S : CSt) : Nat → Nat := S.2.2.1
abbrev cbt (S : CSt) : Nat → Nat → Int64 := S.2.2.2.1
abbrev cro (S : CSt) : Nat → Nat := S.2.2.2.2.1
abbrev cna (S : CSt) : Nat → Nat := S.2.2.2.2.2.1
abbrev cbe (S : CSt) : Nat → Int64 := S.2.2.2.2.2.2.1
abbrev cme (S : CSt) : Nat → Int64 := S.2.2.2.2.2.2.2.1
abbrev ccn (S : CSt) : Int32 := S.2.2.2.2.2.2.2.2.1
abbrev crs (S : CSt) : Int32 := S.2.2.2.2.2.2.2.2.2
abbrev cset_rs (S : CSt) (v : Int32) : CSt := (cn S, ckd S, cln S, cbt S, cro S, cna S, cbe S, cme S, ccn S, v)
def cbU (f : Nat → Nat → Int64) (j : Nat) (v : Nat → Int64) : Nat → Nat → Int64 := fun i => if i = j then v else f i
abbrev cset_bt (S : CSt) (j : Nat) (v : Nat → Int64) : CSt := (cn S, ckd S, cln S, cbU (cbt S) j v, cro S, cna S, cbe S, cme S, ccn S, crs S)
def cObj (ad : Nat → Nat) (S : CSt) (j : Nat) : Nat × va_E := (cro S j, .inr (2, [.ref (ad (ckd S j)), .ref (cna S j)]))
def cArr (cJ : ClassId) (S : CSt) (j : Nat) : Nat × va_E := (cna S j, .inl (cJ, cln S j, .inr (.inl (cbt S j))))
def cRows (S : CSt) : Nat → Option Nat := fun j => if j < cn S then some (cro S j) else none
def cFix (o rw so ba ma : Nat) (cR cJ : ClassId) (S : CSt) : va_W := [
  (o, .inr (4, [.ref rw, .ref so, .int (nI (cn S)), .int (ccn S), .int (crs S)])),
  (rw, .inl (cR, 64, .inr (.inr (.inr (.inr (cRows S)))))),
  (so, .inr (3, [.ref ba, .ref ma])), (ba, .inl (cJ, 500, .inr (.inl (cbe S)))), (ma, .inl (cJ, 500, .inr (.inl (cme S))))]
def cWs (ad : Nat → Nat) (o rw so ba ma : Nat) (cR cJ : ClassId) (S : CSt) : va_W := cFix o rw so ba ma cR cJ S ++ ((List.range (cn S)).map (cObj ad S) ++ (List.range (cn S)).map (cArr cJ S))
theorem cP_fix {ad : Nat → Nat} {o rw so ba ma : Nat} {cR cJ : ClassId} {S : CSt} {k : Nat} (h : k < 5) : (cWs ad o rw so ba ma cR cJ S)[k]? = (cFix o rw so ba ma cR cJ S)[k]? := List.getElem?_append_left h
theorem cP_obj {ad : Nat → Nat} {o rw so ba ma : Nat} {cR cJ : ClassId} {S : CSt} {j : Nat} (h : j < cn S) : (cWs ad o rw so ba ma cR cJ S)[5 + j]? = some (cObj ad S j) := by
  unfold cWs
  rw [List.getElem?_append_right (show 5 ≤ 5 + j by omega), show 5 + j - (cFix o rw so ba ma cR cJ S).length = j from by show 5 + j - 5 = j; omega, List.getElem?_append_left (by simpa using h), List.getElem?_map, List.getElem?_range h]
  rfl
theorem cP_arr {ad : Nat → Nat} {o rw so ba ma : Nat} {cR cJ : ClassId} {S : CSt} {j : Nat} (h : j < cn S) : (cWs ad o rw so ba ma cR cJ S)[5 + cn S + j]? = some (cArr cJ S j) := by
  unfold cWs
  rw [List.getElem?_append_right (show 5 ≤ 5 + cn S + j by omega), show 5 + cn S + j - (cFix o rw so ba ma cR cJ S).length = cn S + j from by show 5 + cn S + j - 5 = _; omega, List.getElem?_append_right (by simp), List.length_map, List.length_range, Nat.add_sub_cancel_left, List.getElem?_map, List.getElem?_range h]
  rfl
/-- what stands in the world, place by place -/
theorem cP_cases {ad : Nat → Nat} {o rw so ba ma : Nat} {cR cJ : ClassId} {S : CSt} {k : Nat} {q : Nat × va_E} (h : (cWs ad o rw so ba ma cR cJ S)[k]? = some q) : (k < 5 ∧ (cFix o rw so ba ma cR cJ S)[k]? = some q) ∨ (∃ j, j < cn S ∧ k = 5 + j ∧ q = cObj ad S j) ∨ (∃ j, j < cn S ∧ k = 5 + cn S + j ∧ q = cArr cJ S j) := by
  by_cases h1 : k < 5
  · left; exact ⟨h1, by rw [← h, cP_fix h1]⟩
  · right
    by_cases h2 : k < 5 + cn S
    · left
      obtain ⟨j, rfl⟩ : ∃ j, k = 5 + j := ⟨k - 5, by omega⟩
      rw [cP_obj (by omega)] at h
      exact ⟨j, by omega, rfl, (Option.some.inj h).symm⟩
    · right
      obtain ⟨j, rfl⟩ : ∃ j, k = 5 + cn S + j := ⟨k - 5 - cn S, by omega⟩
      have hl := (List.getElem?_eq_some_iff.mp h).1
      have hl2 : (cWs ad o rw so ba ma cR cJ S).length = 5 + (cn S + cn S) := by unfold cWs cFix; simp; omega
      rw [hl2] at hl
      rw [cP_arr (by omega)] at h
      exact ⟨j, by omega, rfl, (Option.some.inj h).symm⟩
def cH (dC : Nat → ClassId) (dI : Nat → Nat → Nat) (ad : Nat → Nat) (o rw so ba ma : Nat) (cR cJ : ClassId) (S : CSt) (U : State) (H : Heap) : Prop := va_P (dC, dI) vwCl (cWs ad o rw so ba ma cR cJ S) H ∧ va_K (dC, dI) vwCl [(cR, .object "ReckonBench$Row"), (cJ, .long)] U
def cW (dC : Nat → ClassId) (dI : Nat → Nat → Nat) (ad : Nat → Nat) (o rw so ba ma : Nat) (cR cJ : ClassId) (S : CSt) (U : State) : Prop := cH dC dI ad o rw so ba ma cR cJ S U U.heap
def cB (dC : Nat → ClassId) (dI : Nat → Nat → Nat) (ad : Nat → Nat) (o rw so ba ma : Nat) (cR cJ : ClassId) (sz : Nat) (S : CSt) (U : State) : Prop := U.heap.size = sz ∧ va_P (dC, dI) vwCl (cWs ad o rw so ba ma cR cJ S) U.heap ∧ va_K (dC, dI) vwCl [(cR, .object "ReckonBench$Row"), (cJ, .long)] U ∧ va_D (fun _ => True) (cWs ad o rw so ba ma cR cJ S) ∧ kA ad (va_A (cWs ad o rw so ba ma cR cJ S) sz) U U.heap
def cE (dC : Nat → ClassId) (dI : Nat → Nat → Nat) (ad : Nat → Nat) (o rw so ba ma : Nat) (cR cJ : ClassId) (A : Nat → Prop) (S : CSt) (t : State) : Prop := va_P (dC, dI) vwCl (cWs ad o rw so ba ma cR cJ S) t.heap ∧ va_K (dC, dI) vwCl [(cR, .object "ReckonBench$Row"), (cJ, .long)] t ∧ va_D A (cWs ad o rw so ba ma cR cJ S)
section CW
variable {dC : Nat → ClassId} {dI : Nat → Nat → Nat} {ad : Nat → Nat} {o rw so ba ma : Nat} {cR cJ : ClassId} {S : CSt} {s U : State} {H : Heap} {sz : Nat} {g : JFrame} {m : MethodId} {a : Array Value} {A : Nat → Prop}
theorem cW_bl (h : cW dC dI ad o rw so ba ma cR cJ S U) : cW dC dI ad o rw so ba ma cR cJ S (U.calling g m a) := ⟨h.1, va_K.moved (u := U) (U := U.calling g m a) (Vm.Alike.refl U.vm) h.2⟩
theorem cW_mv (h : cH dC dI ad o rw so ba ma cR cJ S s H) (hU : U.heap = H) (hW : s.WarmedH U.vm) : cW dC dI ad o rw so ba ma cR cJ S U := by
  unfold cW
  rw [hU]
  exact ⟨h.1, va_K.moved hW.alike h.2⟩
theorem cW_rv (h : cH dC dI ad o rw so ba ma cR cJ S s H) : ∃ cell : Cell, H[o]? = some cell ∧ cell.vm.isStatics = false ∧ s.vm.findClass RX6 = some cell.cls := va_recv h.2 h.1 (ci := 4) (q0 := 0) rfl rfl
theorem cB_bl (h : cB dC dI ad o rw so ba ma cR cJ sz S U) : cB dC dI ad o rw so ba ma cR cJ sz S (U.calling g m a) := ⟨h.1, h.2.1, va_K.moved (u := U) (U := U.calling g m a) (Vm.Alike.refl U.vm) h.2.2.1, h.2.2.2.1, kA.moved (u := U) (U := U.calling g m a) (Vm.Alike.refl U.vm) h.2.2.2.2⟩
theorem cB_mv (h : cH dC dI ad o rw so ba ma cR cJ S s H) (hD : va_D A (cWs ad o rw so ba ma cR cJ S)) (hk : kA ad (va_A (cWs ad o rw so ba ma cR cJ S) H.size) s H) (hU : U.heap = H) (hW : s.WarmedH U.vm) : cB dC dI ad o rw so ba ma cR cJ H.size S U := by
  refine ⟨by rw [hU], by rw [hU]; exact h.1, va_K.moved hW.alike h.2, hD.weaken (fun _ _ _ _ => trivial), ?_⟩
  rw [hU]
  exact kA.moved hW.alike hk
theorem rH_of {args : Array Value} (hts : ∀ w ∈ zall, w.before args s = true) (h : cH dC dI ad o rw so ba ma cR cJ S s H) {j : Nat} (hj : j < cn S) : rH (cro S j) ad (ckd S j) (cna S j) (cln S j) (cbt S j) s H := by
  obtain ⟨hP, hK⟩ := h
  have F := fun (k : Nat) (hk : k < 2) (v : Value) (hv : _) => oF_of (T := TX3) (C := RX3) (N := 2) (ci := 2) hts zin_X3 hK hP (5 + j) (cP_obj hj) rfl k hk (v := v) hv
  exact ⟨oO_of hK hP (5 + j) (ci := 2) (cP_obj hj) rfl, F 0 (by decide) _ rfl, F 1 (by decide) _ rfl, oT_long hK hP (5 + cn S + j) 1 (cP_arr hj) rfl⟩
end CW
abbrev rset (_ v : Nat → Int64) : Nat → Int64 := v
theorem kA_rv {ad : Nat → Nat} {s : State} {H : Heap} {i : Nat} (h : kA ad nA s H) (hi : i < 2) : ∃ cell : Cell, H[ad i]? = some cell ∧ cell.vm.isStatics = false ∧ s.vm.findClass RX1 = some cell.cls := by
  obtain ⟨cell, h1, h2, h3, -⟩ := (h i hi).1
  exact ⟨cell, h1, h2, h3⟩
theorem kE9_fractionBits {ad : Nat → Nat} {s : State} {H : Heap} {i : Nat} (h : kA ad nA s H) (hi : i < 2) : va_OF "ReckonBench$Kind" "fractionBits" "I" (.int (kfb i)) (ad i) nA s H := (h i hi).2.1
theorem kE9_topField {ad : Nat → Nat} {s : State} {H : Heap} {i : Nat} (h : kA ad nA s H) (hi : i < 2) : va_OF "ReckonBench$Kind" "topField" "I" (.int (ktop i)) (ad i) nA s H := (h i hi).2.2.1
theorem kE9_lowest {ad : Nat → Nat} {s : State} {H : Heap} {i : Nat} (h : kA ad nA s H) (hi : i < 2) : va_OF "ReckonBench$Kind" "lowest" "I" (.int (klow i)) (ad i) nA s H := (h i hi).2.2.2.1
theorem kE9_sign {ad : Nat → Nat} {s : State} {H : Heap} {i : Nat} (h : kA ad nA s H) (hi : i < 2) : va_OF "ReckonBench$Kind" "sign" "J" (.long (ksgn i)) (ad i) nA s H := (h i hi).2.2.2.2.1
theorem kE9_infinite {ad : Nat → Nat} {s : State} {H : Heap} {i : Nat} (h : kA ad nA s H) (hi : i < 2) : va_OF "ReckonBench$Kind" "infinite" "J" (.long (kinf i)) (ad i) nA s H := (h i hi).2.2.2.2.2.1
theorem kE9_nan {ad : Nat → Nat} {s : State} {H : Heap} {i : Nat} (h : kA ad nA s H) (hi : i < 2) : va_OF "ReckonBench$Kind" "nan" "J" (.long (knan i)) (ad i) nA s H := (h i hi).2.2.2.2.2.2
theorem iA_bl {h : Nat} {ad : Nat → Nat} {k : Nat} {lo hi : Int64} {A : Nat → Prop} {U : State} {g : JFrame} {m : MethodId} {a : Array Value} (q : iA h ad k lo hi A U U.heap) : iA h ad k lo hi A (U.calling g m a) (U.calling g m a).heap := iA.moved (u := U) (U := U.calling g m a) (Vm.Alike.refl U.vm) q
theorem iA_mv {h : Nat} {ad : Nat → Nat} {k : Nat} {lo hi : Int64} {A : Nat → Prop} {s U : State} {H : Heap} (q : iA h ad k lo hi A s H) (hU : U.heap = H) (hW : s.WarmedH U.vm) : iA h ad k lo hi A U U.heap := by
  rw [hU]
  exact iA.moved hW.alike q
section RH
variable {p : Program} {l : Launch} {e : Env} {R : Room} {s : State} {m : MethodId} {args : Array Value} {below : List Frame} {meth : Method} {c : Code} {H : Heap} {locs : List Loc} {cells slots : Nat} {Q : State → Prop}
variable {cc : ByteArray} {pc : Nat} {ls : Array Slot} {rest : List Value}
theorem gf_H (hexec : p.tables.exec = Jvm.exec) (hb : c.code = cc) {o n d own ref : String} {index q : Nat} {v : Value} (hE : va_OF o n d v q nA s H) (hown : s.vm.findClass own = some m.cls) (hlink : (Cond.fieldLink own index ref n d).before args s = true) (hsame : ∀ x, s.fieldFound? o n d = some x → s.fieldFound? ref n d = some x) (hdg : decode cc pc = .ok (.getfield index, 3))
    (kk : W p l e R s m args below meth c H locs cells slots Q (F0 m (pc + 3) ls (v :: rest))) : W p l e R s m args below meth c H locs cells slots Q (F0 m pc ls (.ref q :: rest)) := by
  obtain ⟨cf, k, fi, f, cell, h1, h2, h3, h4, h5, h6⟩ := hE
  exact W.getf hexec hb hown hlink (hsame _ h1) h2 h3 h4 (v := v) h5 rfl rfl hdg kk
theorem tl_H (hexec : p.tables.exec = Jvm.exec) (hb : c.code = cc) {t N : Nat} {f : Nat → Value} (hT : va_T .long t N f nA s H) {i : Int32} (hin : vp_in i N) {v : Value} (hv : f i.toNatClampNeg = v) (hdg : decode cc pc = .ok (.laload, 1))
    (kk : W p l e R s m args below meth c H locs cells slots Q (F0 m (pc + 1) ls (v :: rest))) : W p l e R s m args below meth c H locs cells slots Q (F0 m pc ls (.int i :: .ref t :: rest)) := by
  obtain ⟨cell, h1, h2, h3, h4, h5, h6, h7⟩ := hT
  have hlt : i.toNatClampNeg < N := Nat.not_le.mp fun q => hin (Or.inr q)
  have hin' : ¬ (i < 0 ∨ cell.slots.size ≤ i.toNatClampNeg) := by
    intro q
    rcases q with q | q
    · exact hin (Or.inl q)
    · omega
  exact W.lald (v := v) hexec hb h1 h2 h3 hin' (by rw [h6 _ hlt, hv]) rfl rfl hdg kk
theorem ln_H (hexec : p.tables.exec = Jvm.exec) (hb : c.code = cc) {ty : FieldType} {t N : Nat} {f : Nat → Value} (hT : va_T ty t N f nA s H) {v : Int32} (hv : Int32.ofNat N = v) (hdg : decode cc pc = .ok (.arraylength, 1))
    (kk : W p l e R s m args below meth c H locs cells slots Q (F0 m (pc + 1) ls (.int v :: rest))) : W p l e R s m args below meth c H locs cells slots Q (F0 m pc ls (.ref t :: rest)) := by
  obtain ⟨cell, h1, h2, h3, h4, h5, h6, h7⟩ := hT
  exact W.alen (n := v) hexec hb h1 h2 (h5.trans hv) rfl rfl hdg kk
end RH

