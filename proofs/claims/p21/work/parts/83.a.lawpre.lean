-- the law's state
theorem kZ_at {ad : Nat → Nat} {A B : Nat → Prop} {s U : State} {H : Heap} {locs : List Loc} (h : kZ ad A s s.heap) (hS : va_S A s.heap H locs) (hB : ∀ q, B q → A q) (hU : U.heap = H) (hW : s.WarmedH U.vm) : kZ ad B U U.heap := by
  rw [hU]
  exact kZ.moved hW.alike ⟨(h.1.kept hS.2.1).narrow hB, (h.2.kept hS.2.1).narrow hB⟩
def LA0 (s : State) : Nat → Prop := fun q => s.heap.size ≤ q
theorem tX_of {b L : Nat} {xs : Nat → Int32} {s : State} (hX : va_X b L xs s s.heap) (hbl : b < s.heap.size) : va_T .int b L (fun j => .int (xs j)) (LA0 s) s s.heap := by
  obtain ⟨scr, h1, h2, h3, h4, h5⟩ := hX
  exact ⟨scr, h1, h2, h3, Nat.le_of_eq h4.symm, congrArg Nat.toInt32 h4, h5, Nat.not_le.mpr hbl⟩
theorem tX_mv {ty : FieldType} {b L : Nat} {f : Nat → Value} {s U : State} {H : Heap} {A : Nat → Prop} {locs : List Loc} (h : va_T ty b L f A s s.heap) (hS : va_S A s.heap H locs) (hU : U.heap = H) (hW : s.WarmedH U.vm) : va_T ty b L f nA U U.heap := by
  rw [hU]
  exact ((h.kept hS.2.1).narrow (fun _ h => h.elim)).moved hW.alike
-- what holds all along
def lF (p : Program) (m : MethodId) (c : Code) (b L : Nat) (xs : Nat → Int32) (s : State) (ad : Nat → Nat) : Prop := p.tables.exec = Jvm.exec ∧ c.code = code ∧ c.maxLocals = 11 ∧ s.vm.findClass RL = some m.cls ∧ (∀ w ∈ zall, w.before #[Value.ref b] s = true) ∧ va_X b L xs s s.heap ∧ b < s.heap.size ∧ va_T .int b L (fun j => .int (xs j)) (LA0 s) s s.heap ∧ kA ad (LA0 s) s s.heap ∧ ¬ ad 0 = ad 1 ∧ L ≤ 260
def lS (s : State) (dC : Nat → ClassId) (dI : Nat → Nat → Nat) (ad : Nat → Nat) (o rw so ba ma : Nat) (cR cJ : ClassId) (S : CSt) (H : Heap) (locs : List Loc) : Prop := cH dC dI ad o rw so ba ma cR cJ S s H ∧ va_D (LA0 s) (cWs ad o rw so ba ma cR cJ S) ∧ va_S (LA0 s) s.heap H locs
theorem x3_val {j : Nat} (hj : j ≤ 15) {x3 : Int32} (ex3 : x3 = nI (1 + 4 * j)) : x3.toInt = ((1 + 4 * j : Nat) : Int) := by rw [ex3, nI_toInt (by omega)]
theorem x3_nn {j : Nat} (hj : j ≤ 15) {x3 : Int32} (ex3 : x3 = nI (1 + 4 * j)) : ¬ x3 < 0 := by rw [ex3]; exact nI_nn (by omega)
theorem x3_nd {j d : Nat} (hj : j ≤ 15) (hd : d ≤ 4) {x3 : Int32} (ex3 : x3 = nI (1 + 4 * j)) : x3 + nI d = nI (1 + 4 * j + d) := by rw [ex3, nI_add]
theorem x3_nnd {j d : Nat} (hj : j ≤ 15) (hd : d ≤ 4) {x3 : Int32} (ex3 : x3 = nI (1 + 4 * j)) : ¬ x3 + nI d < 0 := by rw [x3_nd hj hd ex3]; exact nI_nn (by omega)
