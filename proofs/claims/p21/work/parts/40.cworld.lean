-- the class's rows, intervals and arrays of numbers, read only
def rU (h : Nat) (ad : Nat → Nat) (k na n : Nat) (f : Nat → Int64) (U : State) : Prop := va_O "ReckonBench$Row" h nA U U.heap ∧ va_OF "ReckonBench$Row" "kind" "LReckonBench$Kind;" (.ref (ad k)) h nA U U.heap ∧ va_OF "ReckonBench$Row" "numbers" "[J" (.ref na) h nA U U.heap ∧ va_T .long na n (fun j => .long (f j)) nA U U.heap
def rH (h : Nat) (ad : Nat → Nat) (k na n : Nat) (f : Nat → Int64) (U : State) (H : Heap) : Prop := va_O "ReckonBench$Row" h nA U H ∧ va_OF "ReckonBench$Row" "kind" "LReckonBench$Kind;" (.ref (ad k)) h nA U H ∧ va_OF "ReckonBench$Row" "numbers" "[J" (.ref na) h nA U H ∧ va_T .long na n (fun j => .long (f j)) nA U H
theorem rU_bl {h : Nat} {ad : Nat → Nat} {k na n : Nat} {f : Nat → Int64} {U : State} {g : JFrame} {m : MethodId} {a : Array Value} (q : rU h ad k na n f U) : rU h ad k na n f (U.calling g m a) := ⟨va_O.moved (u := U) (U := U.calling g m a) (Vm.Alike.refl U.vm) q.1, va_OF.moved (u := U) (U := U.calling g m a) (Vm.Alike.refl U.vm) q.2.1, va_OF.moved (u := U) (U := U.calling g m a) (Vm.Alike.refl U.vm) q.2.2.1, va_T.moved (u := U) (U := U.calling g m a) (Vm.Alike.refl U.vm) q.2.2.2⟩
theorem rU_mvH {h : Nat} {ad : Nat → Nat} {k na n : Nat} {f : Nat → Int64} {s U : State} {H : Heap} (q : rH h ad k na n f s H) (hU : U.heap = H) (hW : s.WarmedH U.vm) : rU h ad k na n f U := by
  unfold rU
  rw [hU]
  exact ⟨q.1.moved hW.alike, q.2.1.moved hW.alike, q.2.2.1.moved hW.alike, q.2.2.2.moved hW.alike⟩
theorem rU_rv {h : Nat} {ad : Nat → Nat} {k na n : Nat} {f : Nat → Int64} {s : State} {H : Heap} (q : rH h ad k na n f s H) : ∃ cell : Cell, H[h]? = some cell ∧ cell.vm.isStatics = false ∧ s.vm.findClass RX3 = some cell.cls := by
  obtain ⟨cell, h1, h2, h3, -⟩ := q.1
  exact ⟨cell, h1, h2, h3⟩
def iU (h : Nat) (ad : Nat → Nat) (k : Nat) (lo hi : Int64) (U : State) : Prop := va_O "ReckonBench$Interval" h nA U U.heap ∧ va_OF "ReckonBench$Interval" "kind" "LReckonBench$Kind;" (.ref (ad k)) h nA U U.heap ∧ va_OF "ReckonBench$Interval" "low" "J" (.long lo) h nA U U.heap ∧ va_OF "ReckonBench$Interval" "high" "J" (.long hi) h nA U U.heap
def iH (h : Nat) (ad : Nat → Nat) (k : Nat) (lo hi : Int64) (U : State) (H : Heap) : Prop := va_O "ReckonBench$Interval" h nA U H ∧ va_OF "ReckonBench$Interval" "kind" "LReckonBench$Kind;" (.ref (ad k)) h nA U H ∧ va_OF "ReckonBench$Interval" "low" "J" (.long lo) h nA U H ∧ va_OF "ReckonBench$Interval" "high" "J" (.long hi) h nA U H
theorem iU_bl {h : Nat} {ad : Nat → Nat} {k : Nat} {lo hi : Int64} {U : State} {g : JFrame} {m : MethodId} {a : Array Value} (q : iU h ad k lo hi U) : iU h ad k lo hi (U.calling g m a) := ⟨va_O.moved (u := U) (U := U.calling g m a) (Vm.Alike.refl U.vm) q.1, va_OF.moved (u := U) (U := U.calling g m a) (Vm.Alike.refl U.vm) q.2.1, va_OF.moved (u := U) (U := U.calling g m a) (Vm.Alike.refl U.vm) q.2.2.1, va_OF.moved (u := U) (U := U.calling g m a) (Vm.Alike.refl U.vm) q.2.2.2⟩
theorem iU_mvH {h : Nat} {ad : Nat → Nat} {k : Nat} {lo hi : Int64} {s U : State} {H : Heap} (q : iH h ad k lo hi s H) (hU : U.heap = H) (hW : s.WarmedH U.vm) : iU h ad k lo hi U := by
  unfold iU
  rw [hU]
  exact ⟨q.1.moved hW.alike, q.2.1.moved hW.alike, q.2.2.1.moved hW.alike, q.2.2.2.moved hW.alike⟩
theorem iU_rv {h : Nat} {ad : Nat → Nat} {k : Nat} {lo hi : Int64} {s : State} {H : Heap} (q : iH h ad k lo hi s H) : ∃ cell : Cell, H[h]? = some cell ∧ cell.vm.isStatics = false ∧ s.vm.findClass RX0 = some cell.cls := by
  obtain ⟨cell, h1, h2, h3, -⟩ := q.1
  exact ⟨cell, h1, h2, h3⟩
def tU (a n : Nat) (f : Nat → Int64) (U : State) : Prop := va_T .long a n (fun j => .long (f j)) nA U U.heap
theorem tU_bl {a n : Nat} {f : Nat → Int64} {U : State} {g : JFrame} {m : MethodId} {as : Array Value} (q : tU a n f U) : tU a n f (U.calling g m as) := va_T.moved (u := U) (U := U.calling g m as) (Vm.Alike.refl U.vm) q
theorem tU_mvH {a n : Nat} {f : Nat → Int64} {s U : State} {H : Heap} (q : va_T .long a n (fun j => .long (f j)) nA s H) (hU : U.heap = H) (hW : s.WarmedH U.vm) : tU a n f U := by
  unfold tU
  rw [hU]
  exact q.moved hW.alike
-- answers that are 0 or 1
theorem f01_nar {x : Int32} (h : x = 0 ∨ x = 1) : narrow .boolean (.int x) = .int x := by
  rcases h with rfl | rfl <;> rfl
theorem f01_atMost {i : Nat} {a b : Int64} : f_X1_atMost i a b = 0 ∨ f_X1_atMost i a b = 1 := by
  unfold f_X1_atMost f_X1_atMost_3 f_X1_atMost_2 f_X1_atMost_1
  repeat' split
  all_goals first | exact Or.inl rfl | exact Or.inr rfl
theorem f01_isBelow {i : Nat} {a b : Int64} : f_X1_isBelow i a b = 0 ∨ f_X1_isBelow i a b = 1 := by
  unfold f_X1_isBelow f_X1_isBelow_3 f_X1_isBelow_2 f_X1_isBelow_1
  repeat' split
  all_goals first | exact Or.inl rfl | exact Or.inr rfl
-- loops over an array of n places
theorem gInv.at {lo w : Nat} (hn : w ≤ 500) {q : Int32} {n : Nat} (h : gInv lo q n) (hc : ¬ nI w ≤ q) : vp_in q w := by
  rw [Int32.le_iff_toInt_le, nI_toInt (by omega)] at hc
  have := h.1
  exact vp_in_iff.mpr ⟨by omega, by omega⟩
theorem gInv.pv {w : Nat} (hn : w ≤ 500) {q : Int32} {n : Nat} (h : gInv 1 q n) (hc : ¬ nI w ≤ q) : vp_in (q - (1 : Int32)) w := by
  rw [Int32.le_iff_toInt_le, nI_toInt (by omega)] at hc
  have h1 := h.1
  have h2 : (1 : Int32).toInt = 1 := by decide
  refine vp_in_iff.mpr ?_
  rw [Kit.i32_sub (by omega) (by omega), h2]
  omega
theorem gInv.nx {lo w : Nat} (hn : w ≤ 500) {q : Int32} {n : Nat} (h : gInv lo q (Nat.succ n)) (hc : ¬ nI w ≤ q) : gInv lo (q + 1) n := by
  rw [Int32.le_iff_toInt_le, nI_toInt (by omega)] at hc
  obtain ⟨h2, h3, h4⟩ := h
  refine ⟨?_, ?_, ?_⟩ <;> rw [inc_val (by omega)] <;> omega
def eInv (w : Nat) (q2 q3 : Int32) (n : Nat) : Prop := 0 ≤ q3.toInt ∧ q3.toInt ≤ 500 ∧ 501 ≤ q3.toInt + n ∧ (q2 = -1 ∨ vp_in q2 w)
theorem eInv.init {w : Nat} : eInv w (-1) 0 501 := ⟨by decide, by decide, by decide, Or.inl rfl⟩
theorem eInv.zero {w : Nat} {a b : Int32} (h : eInv w a b 0) : False := by
  obtain ⟨h1, h2, h3, -⟩ := h
  omega
theorem eInv.at {w : Nat} (hn : w ≤ 500) {a q : Int32} {n : Nat} (h : eInv w a q n) (hc : ¬ nI w ≤ q) : vp_in q w := by
  rw [Int32.le_iff_toInt_le, nI_toInt (by omega)] at hc
  have := h.1
  exact vp_in_iff.mpr ⟨by omega, by omega⟩
theorem eInv.best {w : Nat} (hn : w ≤ 500) {a q : Int32} {n : Nat} (h : eInv w a q n) (hc : ¬ a = -1) : vp_in a w := h.2.2.2.resolve_left hc
theorem eInv.next {w : Nat} (hn : w ≤ 500) {a q : Int32} {n : Nat} (h : eInv w a q (Nat.succ n)) (hc : ¬ nI w ≤ q) : eInv w a (q + 1) n := by
  rw [Int32.le_iff_toInt_le, nI_toInt (by omega)] at hc
  obtain ⟨h2, h3, h4, h5⟩ := h
  refine ⟨?_, ?_, ?_, h5⟩ <;> rw [inc_val (by omega)] <;> omega
theorem eInv.take {w : Nat} (hn : w ≤ 500) {a q : Int32} {n : Nat} (h : eInv w a q (Nat.succ n)) (hc : ¬ nI w ≤ q) : eInv w q (q + 1) n := by
  have hv := h.at hn hc
  rw [Int32.le_iff_toInt_le, nI_toInt (by omega)] at hc
  obtain ⟨h2, h3, h4, h5⟩ := h
  refine ⟨?_, ?_, ?_, Or.inr hv⟩ <;> rw [inc_val (by omega)] <;> omega

