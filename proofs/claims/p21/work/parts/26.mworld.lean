-- the reference's state: how many rows, where each begins, its kind, all numbers, the work rows, the parts, why the last call was refused
theorem kU_mvH {ad : Nat → Nat} {s U : State} {H : Heap} (h : kA ad nA s H) (hU : U.heap = H) (hW : s.WarmedH U.vm) : kU ad U := by
  unfold kU
  rw [hU]
  exact kA.moved hW.alike h
/-- an object's field, out of a world -/
theorem oF_of {args : Array Value} {s : State} {H : Heap} {D : va_G} {cl : List vw_C} {tys : List (ClassId × FieldType)} {ws : va_W} {C : String} {T : u_T} {N ci a : Nat} {Ts : List Cond} (hts : ∀ w ∈ Ts, w.before args s = true) (hin : ∀ w ∈ u_ws C T N, w ∈ Ts) (hK : va_K D cl tys s) (hP : va_P D cl ws H) (q0 : Nat) {fs : List Value} (he : ws[q0]? = some (a, .inr (ci, fs))) (hc : cl[ci]? = some (C, T, N)) (k : Nat) (hk : k < N) {v : Value} (hv : fs[k]? = some v) : va_OF (T k).1 (T k).2.1 (T k).2.2.1 v a nA s H := by
  obtain ⟨r, h1, cell, q1, q2, q3, q4⟩ := hP q0 _ he
  have hr : r = (C, T, N) := Option.some.inj (h1.symm.trans hc)
  subst hr
  obtain ⟨hS, hfc, kC, hkC, hkind⟩ := hK.1 ci _ hc
  obtain ⟨cf, kf, fi, f, hi, hsl⟩ := hS k hk
  refine ⟨cf, kf, fi, f, cell, hi, (u_facts hfc hkC (u_lays hts hin hk) hi).1, q1, by rw [q3]; exact (fun h => by cases h), ?_, fun h => h⟩
  rw [hsl, q4 k hk]
  simp [vp_V, hv]
theorem oT_int {s : State} {H : Heap} {D : va_G} {cl : List vw_C} {tys : List (ClassId × FieldType)} {ws : va_W} (hK : va_K D cl tys s) (hP : va_P D cl ws H) (q0 t0 : Nat) {cA : ClassId} {a n : Nat} {f : Nat → Int32} (ha : ws[q0]? = some (a, .inl (cA, n, .inl f))) (ht : tys[t0]? = some (cA, .int)) : va_T .int a n (fun j => .int (f j)) nA s H := by
  have h1 := hP q0 _ ha
  refine ⟨arrV cA n (fun j => .int (f j)), h1, (hK.2 t0 _ ht).1 n _, (fun q => by cases q), ?_, ?_, fun j hj => arrV_read _ _ hj, fun h => h⟩
  · rw [arrV_size]; exact Nat.le_refl _
  · rw [arrV_size]
theorem oT_long {s : State} {H : Heap} {D : va_G} {cl : List vw_C} {tys : List (ClassId × FieldType)} {ws : va_W} (hK : va_K D cl tys s) (hP : va_P D cl ws H) (q0 t0 : Nat) {cA : ClassId} {a n : Nat} {f : Nat → Int64} (ha : ws[q0]? = some (a, .inl (cA, n, .inr (.inl f)))) (ht : tys[t0]? = some (cA, .long)) : va_T .long a n (fun j => .long (f j)) nA s H := by
  have h1 := hP q0 _ ha
  refine ⟨arrV cA n (fun j => .long (f j)), h1, (hK.2 t0 _ ht).1 n _, (fun q => by cases q), ?_, ?_, fun j hj => arrV_read _ _ hj, fun h => h⟩
  · rw [arrV_size]; exact Nat.le_refl _
  · rw [arrV_size]
theorem oO_of {s : State} {H : Heap} {D : va_G} {cl : List vw_C} {tys : List (ClassId × FieldType)} {ws : va_W} {q : vw_C} {ci a : Nat} (hK : va_K D cl tys s) (hP : va_P D cl ws H) (q0 : Nat) {fs : List Value} (he : ws[q0]? = some (a, .inr (ci, fs))) (hc : cl[ci]? = some q) : va_O q.1 a nA s H := by
  obtain ⟨cell, h1, h2, h3⟩ := va_recv hK hP hc he
  exact ⟨cell, h1, h2, h3, fun h => h⟩
-- a method of the reference that writes: its start and its end
