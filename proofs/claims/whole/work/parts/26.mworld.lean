-- the reference's state: how many rows, where each begins, its kind, all numbers, the work rows, the parts, why the last call was refused
abbrev MSt : Type := Nat × (Nat → Nat) × (Nat → Nat) × (Nat → Int64) × (Nat → Int64) × (Nat → Int64) × (Nat → Int32) × (Nat → Int32) × (Nat → Int32) × (Nat → Int64) × Int32
abbrev mn (S : MSt) : Nat := S.1
abbrev mf (S : MSt) : Nat → Nat := S.2.1
abbrev mk (S : MSt) : Nat → Nat := S.2.2.1
abbrev mb (S : MSt) : Nat → Int64 := S.2.2.2.1
abbrev mw (S : MSt) : Nat → Int64 := S.2.2.2.2.1
abbrev mo (S : MSt) : Nat → Int64 := S.2.2.2.2.2.1
abbrev mpf (S : MSt) : Nat → Int32 := S.2.2.2.2.2.2.1
abbrev mpz (S : MSt) : Nat → Int32 := S.2.2.2.2.2.2.2.1
abbrev mpd (S : MSt) : Nat → Int32 := S.2.2.2.2.2.2.2.2.1
abbrev mpu (S : MSt) : Nat → Int64 := S.2.2.2.2.2.2.2.2.2.1
abbrev ms (S : MSt) : Int32 := S.2.2.2.2.2.2.2.2.2.2
abbrev mset (S : MSt) (b w o : Nat → Int64) (pf pz pd : Nat → Int32) (pu : Nat → Int64) (s : Int32) : MSt := (mn S, mf S, mk S, b, w, o, pf, pz, pd, pu, s)
abbrev mset_b (S : MSt) (v : Nat → Int64) : MSt := mset S v (mw S) (mo S) (mpf S) (mpz S) (mpd S) (mpu S) (ms S)
abbrev mset_w (S : MSt) (v : Nat → Int64) : MSt := mset S (mb S) v (mo S) (mpf S) (mpz S) (mpd S) (mpu S) (ms S)
abbrev mset_o (S : MSt) (v : Nat → Int64) : MSt := mset S (mb S) (mw S) v (mpf S) (mpz S) (mpd S) (mpu S) (ms S)
abbrev mset_pf (S : MSt) (v : Nat → Int32) : MSt := mset S (mb S) (mw S) (mo S) v (mpz S) (mpd S) (mpu S) (ms S)
abbrev mset_pz (S : MSt) (v : Nat → Int32) : MSt := mset S (mb S) (mw S) (mo S) (mpf S) v (mpd S) (mpu S) (ms S)
abbrev mset_pd (S : MSt) (v : Nat → Int32) : MSt := mset S (mb S) (mw S) (mo S) (mpf S) (mpz S) v (mpu S) (ms S)
abbrev mset_pu (S : MSt) (v : Nat → Int64) : MSt := mset S (mb S) (mw S) (mo S) (mpf S) (mpz S) (mpd S) v (ms S)
abbrev mset_s (S : MSt) (v : Int32) : MSt := mset S (mb S) (mw S) (mo S) (mpf S) (mpz S) (mpd S) (mpu S) v
def mWs (o : Nat) (r : Nat → Nat) (cI cJ : ClassId) (S : MSt) : va_W := [
  (o, .inr (5, [.ref (r 0), .ref (r 1), .ref (r 2), .ref (r 3), .ref (r 4), .ref (r 5), .ref (r 6), .ref (r 7), .ref (r 8), .ref (r 9), .ref (r 10), .ref (r 11), .ref (r 12), .ref (r 13), .ref (r 14), .ref (r 15), .int (nI (mn S)), .int (ms S)])),
  (r 0, .inl (cI, 2, .inl kfb)), (r 1, .inl (cI, 2, .inl klow)), (r 2, .inl (cI, 2, .inl ktop)),
  (r 3, .inl (cJ, 2, .inr (.inl ksgn))), (r 4, .inl (cJ, 2, .inr (.inl kinf))), (r 5, .inl (cJ, 2, .inr (.inl knan))), (r 6, .inl (cJ, 2, .inr (.inl kone))),
  (r 7, .inl (cI, 65, .inl (fun j => nI (mf S j)))), (r 8, .inl (cI, 64, .inl (fun j => nI (mk S j)))), (r 9, .inl (cJ, 4000, .inr (.inl (mb S)))),
  (r 10, .inl (cJ, 500, .inr (.inl (mw S)))), (r 11, .inl (cJ, 500, .inr (.inl (mo S)))),
  (r 12, .inl (cI, 12, .inl (mpf S))), (r 13, .inl (cI, 12, .inl (mpz S))), (r 14, .inl (cI, 12, .inl (mpd S))), (r 15, .inl (cJ, 12, .inr (.inl (mpu S))))]
/-- the world of the reference, at a state and a heap -/
def mH (dC : Nat → ClassId) (dI : Nat → Nat → Nat) (o : Nat) (r : Nat → Nat) (cI cJ : ClassId) (S : MSt) (U : State) (H : Heap) : Prop := va_P (dC, dI) vwCl (mWs o r cI cJ S) H ∧ va_K (dC, dI) vwCl [(cI, .int), (cJ, .long)] U
def mW (dC : Nat → ClassId) (dI : Nat → Nat → Nat) (o : Nat) (r : Nat → Nat) (cI cJ : ClassId) (S : MSt) (U : State) : Prop := mH dC dI o r cI cJ S U U.heap
theorem mW_bl {dC : Nat → ClassId} {dI : Nat → Nat → Nat} {o : Nat} {r : Nat → Nat} {cI cJ : ClassId} {S : MSt} {U : State} {g : JFrame} {m : MethodId} {a : Array Value} (h : mW dC dI o r cI cJ S U) : mW dC dI o r cI cJ S (U.calling g m a) := ⟨h.1, va_K.moved (u := U) (U := U.calling g m a) (Vm.Alike.refl U.vm) h.2⟩
theorem mW_mv {dC : Nat → ClassId} {dI : Nat → Nat → Nat} {o : Nat} {r : Nat → Nat} {cI cJ : ClassId} {S : MSt} {s U : State} {H : Heap} (h : mH dC dI o r cI cJ S s H) (hU : U.heap = H) (hW : s.WarmedH U.vm) : mW dC dI o r cI cJ S U := by
  unfold mW
  rw [hU]
  exact ⟨h.1, va_K.moved hW.alike h.2⟩
theorem mW_rv {dC : Nat → ClassId} {dI : Nat → Nat → Nat} {o : Nat} {r : Nat → Nat} {cI cJ : ClassId} {S : MSt} {s : State} {H : Heap} (h : mH dC dI o r cI cJ S s H) : ∃ cell : Cell, H[o]? = some cell ∧ cell.vm.isStatics = false ∧ s.vm.findClass RX7 = some cell.cls := va_recv h.2 h.1 (ci := 5) (q0 := 0) rfl rfl
theorem mU_mvH {o : Nat} {r : Nat → Nat} {s U : State} {H : Heap} (h : mA o r nA s H) (hU : U.heap = H) (hW : s.WarmedH U.vm) : mU o r U := by
  unfold mU
  rw [hU]
  exact mA.moved hW.alike h
theorem kU_mvH {ad : Nat → Nat} {s U : State} {H : Heap} (h : kA ad nA s H) (hU : U.heap = H) (hW : s.WarmedH U.vm) : kU ad U := by
  unfold kU
  rw [hU]
  exact kA.moved hW.alike h
/-- an object's field, out of a world -/
theorem oF_of {args : Array Value} {s : State} {H : Heap} {D : va_G} {cl : List vw_C} {tys : List (ClassId × FieldType)} {ws : va_W} {C : String} {T : u_T} {N ci a : Nat} {Ts : List Cond} (hts : ∀ w ∈ Ts, w.before args s = true) (hin : ∀ w ∈ u_ws C T N, w ∈ Ts) (hK : va_K D cl tys s) (hP : va_P D cl ws H) (q0 : Nat) {fs : List Value} (he : ws[q0]? = some (a, .inr (ci, fs))) (hc : cl[ci]? = some (C, T, N)) (k : Nat) (hk : k < N) {v : Value} (hv : fs[k]? = some v) : va_OF (T k).1 (T k).2.1 (T k).2.2.1 v a nA s H := by
  obtain ⟨r, h1, cell, q1, q2, q3, q4⟩ := hP q0 _ he
  have hr : r = (C, T, N) := Option.some.inj (h1.symm.trans hc)
  subst hr
  obtain ⟨hS, hfc, kC, hkC, hkind⟩ := hK.1 ci _ hc
  obtain ⟨cf, kf, fi, f, hi, hsl⟩ := hS k hk
  refine ⟨cf, kf, fi, f, cell, hi, (u_facts hfc hkC (u_lays hts hin hk) hi).1, q1, by rw [q3]; exact (fun h => by cases h), ?_, fun h => h⟩
  rw [hsl, q4 k hk]
  simp [vp_V, hv]
theorem oT_int {s : State} {H : Heap} {D : va_G} {cl : List vw_C} {tys : List (ClassId × FieldType)} {ws : va_W} (hK : va_K D cl tys s) (hP : va_P D cl ws H) (q0 t0 : Nat) {cA : ClassId} {a n : Nat} {f : Nat → Int32} (ha : ws[q0]? = some (a, .inl (cA, n, .inl f))) (ht : tys[t0]? = some (cA, .int)) : va_T .int a n (fun j => .int (f j)) nA s H := by
  have h1 := hP q0 _ ha
  refine ⟨arrV cA n (fun j => .int (f j)), h1, (hK.2 t0 _ ht).1 n _, (fun q => by cases q), ?_, ?_, fun j hj => arrV_read _ _ hj, fun h => h⟩
  · rw [arrV_size]; exact Nat.le_refl _
  · rw [arrV_size]
theorem oT_long {s : State} {H : Heap} {D : va_G} {cl : List vw_C} {tys : List (ClassId × FieldType)} {ws : va_W} (hK : va_K D cl tys s) (hP : va_P D cl ws H) (q0 t0 : Nat) {cA : ClassId} {a n : Nat} {f : Nat → Int64} (ha : ws[q0]? = some (a, .inl (cA, n, .inr (.inl f)))) (ht : tys[t0]? = some (cA, .long)) : va_T .long a n (fun j => .long (f j)) nA s H := by
  have h1 := hP q0 _ ha
  refine ⟨arrV cA n (fun j => .long (f j)), h1, (hK.2 t0 _ ht).1 n _, (fun q => by cases q), ?_, ?_, fun j hj => arrV_read _ _ hj, fun h => h⟩
  · rw [arrV_size]; exact Nat.le_refl _
  · rw [arrV_size]
theorem oO_of {s : State} {H : Heap} {D : va_G} {cl : List vw_C} {tys : List (ClassId × FieldType)} {ws : va_W} {q : vw_C} {ci a : Nat} (hK : va_K D cl tys s) (hP : va_P D cl ws H) (q0 : Nat) {fs : List Value} (he : ws[q0]? = some (a, .inr (ci, fs))) (hc : cl[ci]? = some q) : va_O q.1 a nA s H := by
  obtain ⟨cell, h1, h2, h3⟩ := va_recv hK hP hc he
  exact ⟨cell, h1, h2, h3, fun h => h⟩
theorem mA_of {args : Array Value} {dC : Nat → ClassId} {dI : Nat → Nat → Nat} {o : Nat} {r : Nat → Nat} {cI cJ : ClassId} {S : MSt} {s : State} {H : Heap} (hts : ∀ w ∈ zall, w.before args s = true) (h : mH dC dI o r cI cJ S s H) : mA o r nA s H := by
  obtain ⟨hP, hK⟩ := h
  have F := fun (k : Nat) (hk : k < 18) (v : Value) (hv : _) => oF_of (T := TX7) (C := RX7) (N := 18) (ci := 5) hts zin_X7 hK hP 0 rfl rfl k hk (v := v) hv
  exact ⟨oO_of hK hP 0 (ci := 5) rfl rfl, ⟨F 0 (by decide) _ rfl, F 1 (by decide) _ rfl, F 2 (by decide) _ rfl, F 3 (by decide) _ rfl, F 4 (by decide) _ rfl, F 5 (by decide) _ rfl, F 6 (by decide) _ rfl⟩,
    oT_int hK hP 1 0 rfl rfl, oT_int hK hP 2 0 rfl rfl, oT_int hK hP 3 0 rfl rfl, oT_long hK hP 4 1 rfl rfl, oT_long hK hP 5 1 rfl rfl, oT_long hK hP 6 1 rfl rfl, oT_long hK hP 7 1 rfl rfl⟩
-- a method of the reference that writes: its start and its end
def mB (dC : Nat → ClassId) (dI : Nat → Nat → Nat) (o : Nat) (r : Nat → Nat) (cI cJ : ClassId) (sz : Nat) (S : MSt) (U : State) : Prop := U.heap.size = sz ∧ va_P (dC, dI) vwCl (mWs o r cI cJ S) U.heap ∧ va_K (dC, dI) vwCl [(cI, .int), (cJ, .long)] U ∧ va_D (fun _ => True) (mWs o r cI cJ S)
def mE (dC : Nat → ClassId) (dI : Nat → Nat → Nat) (o : Nat) (r : Nat → Nat) (cI cJ : ClassId) (A : Nat → Prop) (S : MSt) (t : State) : Prop := va_P (dC, dI) vwCl (mWs o r cI cJ S) t.heap ∧ va_K (dC, dI) vwCl [(cI, .int), (cJ, .long)] t ∧ va_D A (mWs o r cI cJ S)
theorem mB_bl {dC : Nat → ClassId} {dI : Nat → Nat → Nat} {o : Nat} {r : Nat → Nat} {cI cJ : ClassId} {sz : Nat} {S : MSt} {U : State} {g : JFrame} {m : MethodId} {a : Array Value} (h : mB dC dI o r cI cJ sz S U) : mB dC dI o r cI cJ sz S (U.calling g m a) := ⟨h.1, h.2.1, va_K.moved (u := U) (U := U.calling g m a) (Vm.Alike.refl U.vm) h.2.2.1, h.2.2.2⟩
theorem mB_mv {dC : Nat → ClassId} {dI : Nat → Nat → Nat} {o : Nat} {r : Nat → Nat} {cI cJ : ClassId} {S : MSt} {s U : State} {H : Heap} {A : Nat → Prop} (h : mH dC dI o r cI cJ S s H) (hD : va_D A (mWs o r cI cJ S)) (hU : U.heap = H) (hW : s.WarmedH U.vm) : mB dC dI o r cI cJ H.size S U := by
  refine ⟨by rw [hU], by rw [hU]; exact h.1, va_K.moved hW.alike h.2, hD.weaken (fun _ _ _ _ => trivial)⟩
/-- which addresses the world's cells have: no matter what they hold -/
theorem mWs_A {o : Nat} {r : Nat → Nat} {cI cJ : ClassId} {S S' : MSt} {sz : Nat} : va_A (mWs o r cI cJ S) sz = va_A (mWs o r cI cJ S') sz := by
  funext q
  apply propext
  constructor
  all_goals
    intro h
    rcases h with ⟨k, e, h⟩ | h
    · left
      match k, h with
      | 0, h => exact ⟨0, _, congrArg (fun z => some (z, _)) (congrArg Prod.fst (Option.some.inj h))⟩
      | 1, h => exact ⟨1, _, congrArg (fun z => some (z, _)) (congrArg Prod.fst (Option.some.inj h))⟩
      | 2, h => exact ⟨2, _, congrArg (fun z => some (z, _)) (congrArg Prod.fst (Option.some.inj h))⟩
      | 3, h => exact ⟨3, _, congrArg (fun z => some (z, _)) (congrArg Prod.fst (Option.some.inj h))⟩
      | 4, h => exact ⟨4, _, congrArg (fun z => some (z, _)) (congrArg Prod.fst (Option.some.inj h))⟩
      | 5, h => exact ⟨5, _, congrArg (fun z => some (z, _)) (congrArg Prod.fst (Option.some.inj h))⟩
      | 6, h => exact ⟨6, _, congrArg (fun z => some (z, _)) (congrArg Prod.fst (Option.some.inj h))⟩
      | 7, h => exact ⟨7, _, congrArg (fun z => some (z, _)) (congrArg Prod.fst (Option.some.inj h))⟩
      | 8, h => exact ⟨8, _, congrArg (fun z => some (z, _)) (congrArg Prod.fst (Option.some.inj h))⟩
      | 9, h => exact ⟨9, _, congrArg (fun z => some (z, _)) (congrArg Prod.fst (Option.some.inj h))⟩
      | 10, h => exact ⟨10, _, congrArg (fun z => some (z, _)) (congrArg Prod.fst (Option.some.inj h))⟩
      | 11, h => exact ⟨11, _, congrArg (fun z => some (z, _)) (congrArg Prod.fst (Option.some.inj h))⟩
      | 12, h => exact ⟨12, _, congrArg (fun z => some (z, _)) (congrArg Prod.fst (Option.some.inj h))⟩
      | 13, h => exact ⟨13, _, congrArg (fun z => some (z, _)) (congrArg Prod.fst (Option.some.inj h))⟩
      | 14, h => exact ⟨14, _, congrArg (fun z => some (z, _)) (congrArg Prod.fst (Option.some.inj h))⟩
      | 15, h => exact ⟨15, _, congrArg (fun z => some (z, _)) (congrArg Prod.fst (Option.some.inj h))⟩
      | 16, h => exact ⟨16, _, congrArg (fun z => some (z, _)) (congrArg Prod.fst (Option.some.inj h))⟩
      | k + 17, h => cases h
    · exact Or.inr h
section WCUTH
variable {p : Program} {l : Launch} {e : Env} {R : Room} {s : State} {m : MethodId} {args : Array Value} {below : List Frame} {meth : Method} {c : Code} {H : Heap} {locs : List Loc} {cells slots : Nat} {Q : State → Prop}
theorem W_cutH {α : Type} {pcJ nL : Nat} {g : JFrame} (C : α → Heap → List Loc → Prop) (st : α → List Value) (lv : α → List (Nat × Value)) (kJ : ∀ (v : α) (H : Heap) (locs : List Loc) (ls : Array Slot), C v H locs → lv_has ls nL (lv v) → W p l e R s m args below meth c H locs cells slots Q (F0 m pcJ ls (st v))) (kk : (∀ (v : α) (H : Heap) (locs : List Loc) (ls : Array Slot), C v H locs → lv_has ls nL (lv v) → W p l e R s m args below meth c H locs cells slots Q (F0 m pcJ ls (st v))) → W p l e R s m args below meth c H locs cells slots Q g) : W p l e R s m args below meth c H locs cells slots Q g := kk kJ
theorem W_loopH {α : Type} {pcJ nL : Nat} (C : Nat → α → Heap → List Loc → Prop) (st : α → List Value) (lv : α → List (Nat × Value)) (h0 : ∀ v H locs, C 0 v H locs → False) (kJ : ∀ n, (∀ (v : α) (H : Heap) (locs : List Loc) (ls : Array Slot), C n v H locs → lv_has ls nL (lv v) → W p l e R s m args below meth c H locs cells slots Q (F0 m pcJ ls (st v))) → ∀ (v : α) (H : Heap) (locs : List Loc) (ls : Array Slot), C (n + 1) v H locs → lv_has ls nL (lv v) → W p l e R s m args below meth c H locs cells slots Q (F0 m pcJ ls (st v))) (n : Nat) (v : α) (H : Heap) (locs : List Loc) (ls : Array Slot) (hC : C n v H locs) (hl : lv_has ls nL (lv v)) : W p l e R s m args below meth c H locs cells slots Q (F0 m pcJ ls (st v)) := by
  induction n generalizing v H locs ls with
  | zero => exact (h0 v H locs hC).elim
  | succ n ih => exact kJ n (fun v H locs ls h1 h2 => ih v H locs ls h1 h2) v H locs ls hC hl
end WCUTH
