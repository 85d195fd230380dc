-- numbers of the two kinds, by the kind's index: 0 DOUBLE, 1 SINGLE
def nA : Nat → Prop := fun _ => False
def kfb (i : Nat) : Int32 := if i = 0 then 52 else 23
def ktop (i : Nat) : Int32 := if i = 0 then 2047 else 255
def klow (i : Nat) : Int32 := if i = 0 then -1074 else -149
def ksgn (i : Nat) : Int64 := if i = 0 then -9223372036854775808 else 2147483648
def kinf (i : Nat) : Int64 := if i = 0 then 9218868437227405312 else 2139095040
def knan (i : Nat) : Int64 := if i = 0 then 9221120237041090560 else 2143289344
def kone (i : Nat) : Int64 := if i = 0 then 4607182418800017408 else 1065353216
-- the machine's operations, as the rows write them
def jishl (x y : Int32) : Int32 := x <<< (y &&& 31)
def jishr (x y : Int32) : Int32 := x >>> (y &&& 31)
def jiushr (x y : Int32) : Int32 := (x.toUInt32 >>> (y.toUInt32 &&& Int32.toUInt32 31)).toInt32
def jlushr (x : Int64) (y : Int32) : Int64 := (x.toUInt64 >>> (y.toInt64.toUInt64 &&& Int64.toUInt64 63)).toInt64
def jlshl (x : Int64) (y : Int32) : Int64 := x <<< (y.toInt64 &&& 63)
def jlshr (x : Int64) (y : Int32) : Int64 := x >>> (y.toInt64 &&& 63)
def jmaxI (x y : Int32) : Int32 := if x < y then y else x
def jminI (x y : Int32) : Int32 := if y < x then y else x
def jlrem (x y : Int64) : Int64 := x - x / y * y
def jmaxL (x y : Int64) : Int64 := if y < x then x else y
def jminL (x y : Int64) : Int64 := if y < x then y else x
def jabsL (x : Int64) : Int64 := if 0 < x then x else -x
theorem kcl {i : Nat} (h : i < 2) : (nI i).toNatClampNeg = i := nI_clamp (by omega)
theorem kin {i : Nat} (h : i < 2) : vp_in (nI i) 2 := vp_in_nI h (by decide)
theorem kev (f : Nat → Value) {i : Nat} (h : i < 2) : f (nI i).toNatClampNeg = f i := by rw [kcl h]
-- the two constants of Kind, read only
def kA (ad : Nat → Nat) (A : Nat → Prop) (U : State) (H : Heap) : Prop := ∀ i : Nat, i < 2 → va_O "ReckonBench$Kind" (ad i) A U H ∧ va_OF "ReckonBench$Kind" "fractionBits" "I" (.int (kfb i)) (ad i) A U H ∧ va_OF "ReckonBench$Kind" "topField" "I" (.int (ktop i)) (ad i) A U H ∧ va_OF "ReckonBench$Kind" "lowest" "I" (.int (klow i)) (ad i) A U H ∧ va_OF "ReckonBench$Kind" "sign" "J" (.long (ksgn i)) (ad i) A U H ∧ va_OF "ReckonBench$Kind" "infinite" "J" (.long (kinf i)) (ad i) A U H ∧ va_OF "ReckonBench$Kind" "nan" "J" (.long (knan i)) (ad i) A U H
theorem kA.moved {ad : Nat → Nat} {A : Nat → Prop} {u U : State} {H : Heap} (hvm : u.vm.Alike U.vm) (h : kA ad A u H) : kA ad A U H := fun i hi => by
  obtain ⟨h0, h1, h2, h3, h4, h5, h6⟩ := h i hi
  exact ⟨h0.moved hvm, h1.moved hvm, h2.moved hvm, h3.moved hvm, h4.moved hvm, h5.moved hvm, h6.moved hvm⟩
theorem kA.kept {ad : Nat → Nat} {A : Nat → Prop} {U : State} {H H1 : Heap} (h : kA ad A U H) (hq : ∀ a : Nat, a < H.size → ¬ A a → H1[a]? = H[a]?) : kA ad A U H1 := fun i hi => by
  obtain ⟨h0, h1, h2, h3, h4, h5, h6⟩ := h i hi
  exact ⟨h0.kept hq, h1.kept hq, h2.kept hq, h3.kept hq, h4.kept hq, h5.kept hq, h6.kept hq⟩
theorem kA.narrow {ad : Nat → Nat} {A B : Nat → Prop} {U : State} {H : Heap} (h : kA ad A U H) (hAB : ∀ q, B q → A q) : kA ad B U H := fun i hi => by
  obtain ⟨h0, h1, h2, h3, h4, h5, h6⟩ := h i hi
  exact ⟨h0.narrow hAB, h1.narrow hAB, h2.narrow hAB, h3.narrow hAB, h4.narrow hAB, h5.narrow hAB, h6.narrow hAB⟩
def kU (ad : Nat → Nat) (U : State) : Prop := kA ad nA U U.heap
theorem kU_bl {ad : Nat → Nat} {U : State} {g : JFrame} {mk : MethodId} {a : Array Value} (h : kU ad U) : kU ad (U.calling g mk a) := kA.moved (u := U) (U := U.calling g mk a) (Vm.Alike.refl U.vm) h
theorem kU_mv {ad : Nat → Nat} {s U : State} (h : kU ad s) (hU : U.heap = s.heap) (hW : s.WarmedH U.vm) : kU ad U := by
  unfold kU
  rw [hU]
  exact kA.moved hW.alike h
theorem kU_rv {ad : Nat → Nat} {s : State} {i : Nat} (h : kU ad s) (hi : i < 2) : ∃ cell : Cell, s.heap[ad i]? = some cell ∧ cell.vm.isStatics = false ∧ s.vm.findClass RX1 = some cell.cls := by
  obtain ⟨cell, h1, h2, h3, -⟩ := (h i hi).1
  exact ⟨cell, h1, h2, h3⟩
theorem kE_fractionBits {ad : Nat → Nat} {s : State} {i : Nat} (h : kU ad s) (hi : i < 2) : va_OF "ReckonBench$Kind" "fractionBits" "I" (.int (kfb i)) (ad i) nA s s.heap := (h i hi).2.1
theorem kE_topField {ad : Nat → Nat} {s : State} {i : Nat} (h : kU ad s) (hi : i < 2) : va_OF "ReckonBench$Kind" "topField" "I" (.int (ktop i)) (ad i) nA s s.heap := (h i hi).2.2.1
theorem kE_lowest {ad : Nat → Nat} {s : State} {i : Nat} (h : kU ad s) (hi : i < 2) : va_OF "ReckonBench$Kind" "lowest" "I" (.int (klow i)) (ad i) nA s s.heap := (h i hi).2.2.2.1
theorem kE_sign {ad : Nat → Nat} {s : State} {i : Nat} (h : kU ad s) (hi : i < 2) : va_OF "ReckonBench$Kind" "sign" "J" (.long (ksgn i)) (ad i) nA s s.heap := (h i hi).2.2.2.2.1
theorem kE_infinite {ad : Nat → Nat} {s : State} {i : Nat} (h : kU ad s) (hi : i < 2) : va_OF "ReckonBench$Kind" "infinite" "J" (.long (kinf i)) (ad i) nA s s.heap := (h i hi).2.2.2.2.2.1
theorem kE_nan {ad : Nat → Nat} {s : State} {i : Nat} (h : kU ad s) (hi : i < 2) : va_OF "ReckonBench$Kind" "nan" "J" (.long (knan i)) (ad i) nA s s.heap := (h i hi).2.2.2.2.2.2
-- the reference's constants, read only: its object, seven fields, seven small rows
def mA (o : Nat) (r : Nat → Nat) (A : Nat → Prop) (U : State) (H : Heap) : Prop :=
  va_O "ReckonBenchModel" o A U H ∧
  (va_OF "ReckonBenchModel" "FRACTION" "[I" (.ref (r 0)) o A U H ∧ va_OF "ReckonBenchModel" "LEAST" "[I" (.ref (r 1)) o A U H ∧ va_OF "ReckonBenchModel" "FIELD" "[I" (.ref (r 2)) o A U H ∧ va_OF "ReckonBenchModel" "SIGN" "[J" (.ref (r 3)) o A U H ∧ va_OF "ReckonBenchModel" "INFINITE" "[J" (.ref (r 4)) o A U H ∧ va_OF "ReckonBenchModel" "NONE" "[J" (.ref (r 5)) o A U H ∧ va_OF "ReckonBenchModel" "ONE" "[J" (.ref (r 6)) o A U H) ∧
  va_T .int (r 0) 2 (fun j => .int (kfb j)) A U H ∧ va_T .int (r 1) 2 (fun j => .int (klow j)) A U H ∧ va_T .int (r 2) 2 (fun j => .int (ktop j)) A U H ∧ va_T .long (r 3) 2 (fun j => .long (ksgn j)) A U H ∧ va_T .long (r 4) 2 (fun j => .long (kinf j)) A U H ∧ va_T .long (r 5) 2 (fun j => .long (knan j)) A U H ∧ va_T .long (r 6) 2 (fun j => .long (kone j)) A U H
theorem mA.moved {o : Nat} {r : Nat → Nat} {A : Nat → Prop} {u U : State} {H : Heap} (hvm : u.vm.Alike U.vm) (h : mA o r A u H) : mA o r A U H := by
  obtain ⟨h0, ⟨h1, h2, h3, h4, h5, h6, h7⟩, g1, g2, g3, g4, g5, g6, g7⟩ := h
  exact ⟨h0.moved hvm, ⟨h1.moved hvm, h2.moved hvm, h3.moved hvm, h4.moved hvm, h5.moved hvm, h6.moved hvm, h7.moved hvm⟩, g1.moved hvm, g2.moved hvm, g3.moved hvm, g4.moved hvm, g5.moved hvm, g6.moved hvm, g7.moved hvm⟩
def mU (o : Nat) (r : Nat → Nat) (U : State) : Prop := mA o r nA U U.heap
theorem mU_bl {o : Nat} {r : Nat → Nat} {U : State} {g : JFrame} {mk : MethodId} {a : Array Value} (h : mU o r U) : mU o r (U.calling g mk a) := mA.moved (u := U) (U := U.calling g mk a) (Vm.Alike.refl U.vm) h
theorem mU_mv {o : Nat} {r : Nat → Nat} {s U : State} (h : mU o r s) (hU : U.heap = s.heap) (hW : s.WarmedH U.vm) : mU o r U := by
  unfold mU
  rw [hU]
  exact mA.moved hW.alike h
theorem mU_rv {o : Nat} {r : Nat → Nat} {s : State} (h : mU o r s) : ∃ cell : Cell, s.heap[o]? = some cell ∧ cell.vm.isStatics = false ∧ s.vm.findClass RX7 = some cell.cls := by
  obtain ⟨cell, h1, h2, h3, -⟩ := h.1
  exact ⟨cell, h1, h2, h3⟩
theorem mE_FRACTION {o : Nat} {r : Nat → Nat} {s : State} (h : mU o r s) : va_OF "ReckonBenchModel" "FRACTION" "[I" (.ref (r 0)) o nA s s.heap := h.2.1.1
theorem mE_LEAST {o : Nat} {r : Nat → Nat} {s : State} (h : mU o r s) : va_OF "ReckonBenchModel" "LEAST" "[I" (.ref (r 1)) o nA s s.heap := h.2.1.2.1
theorem mE_FIELD {o : Nat} {r : Nat → Nat} {s : State} (h : mU o r s) : va_OF "ReckonBenchModel" "FIELD" "[I" (.ref (r 2)) o nA s s.heap := h.2.1.2.2.1
theorem mE_SIGN {o : Nat} {r : Nat → Nat} {s : State} (h : mU o r s) : va_OF "ReckonBenchModel" "SIGN" "[J" (.ref (r 3)) o nA s s.heap := h.2.1.2.2.2.1
theorem mE_INFINITE {o : Nat} {r : Nat → Nat} {s : State} (h : mU o r s) : va_OF "ReckonBenchModel" "INFINITE" "[J" (.ref (r 4)) o nA s s.heap := h.2.1.2.2.2.2.1
theorem mE_NONE {o : Nat} {r : Nat → Nat} {s : State} (h : mU o r s) : va_OF "ReckonBenchModel" "NONE" "[J" (.ref (r 5)) o nA s s.heap := h.2.1.2.2.2.2.2.1
theorem mE_ONE {o : Nat} {r : Nat → Nat} {s : State} (h : mU o r s) : va_OF "ReckonBenchModel" "ONE" "[J" (.ref (r 6)) o nA s s.heap := h.2.1.2.2.2.2.2.2
theorem mT_FRACTION {o : Nat} {r : Nat → Nat} {s : State} (h : mU o r s) : va_T .int (r 0) 2 (fun j => .int (kfb j)) nA s s.heap := h.2.2.1
theorem mT_LEAST {o : Nat} {r : Nat → Nat} {s : State} (h : mU o r s) : va_T .int (r 1) 2 (fun j => .int (klow j)) nA s s.heap := h.2.2.2.1
theorem mT_FIELD {o : Nat} {r : Nat → Nat} {s : State} (h : mU o r s) : va_T .int (r 2) 2 (fun j => .int (ktop j)) nA s s.heap := h.2.2.2.2.1
theorem mT_SIGN {o : Nat} {r : Nat → Nat} {s : State} (h : mU o r s) : va_T .long (r 3) 2 (fun j => .long (ksgn j)) nA s s.heap := h.2.2.2.2.2.1
theorem mT_INFINITE {o : Nat} {r : Nat → Nat} {s : State} (h : mU o r s) : va_T .long (r 4) 2 (fun j => .long (kinf j)) nA s s.heap := h.2.2.2.2.2.2.1
theorem mT_NONE {o : Nat} {r : Nat → Nat} {s : State} (h : mU o r s) : va_T .long (r 5) 2 (fun j => .long (knan j)) nA s s.heap := h.2.2.2.2.2.2.2.1
theorem mT_ONE {o : Nat} {r : Nat → Nat} {s : State} (h : mU o r s) : va_T .long (r 6) 2 (fun j => .long (kone j)) nA s s.heap := h.2.2.2.2.2.2.2.2
-- joins and loops of a walk that only reads
section WCUT
variable {p : Program} {l : Launch} {e : Env} {R : Room} {s : State} {m : MethodId} {args : Array Value} {below : List Frame} {meth : Method} {c : Code} {H : Heap} {locs : List Loc} {cells slots : Nat} {Q : State → Prop}
theorem W_cut {α : Type} {pcJ nL : Nat} {g : JFrame} (C : α → Prop) (st : α → List Value) (lv : α → List (Nat × Value)) (kJ : ∀ (v : α) (ls : Array Slot), C v → lv_has ls nL (lv v) → W p l e R s m args below meth c H locs cells slots Q (F0 m pcJ ls (st v))) (kk : (∀ (v : α) (ls : Array Slot), C v → lv_has ls nL (lv v) → W p l e R s m args below meth c H locs cells slots Q (F0 m pcJ ls (st v))) → W p l e R s m args below meth c H locs cells slots Q g) : W p l e R s m args below meth c H locs cells slots Q g := kk kJ
theorem W_loop {α : Type} {pcJ nL : Nat} (C : Nat → α → Prop) (st : α → List Value) (lv : α → List (Nat × Value)) (h0 : ∀ v, C 0 v → False) (kJ : ∀ n, (∀ (v : α) (ls : Array Slot), C n v → lv_has ls nL (lv v) → W p l e R s m args below meth c H locs cells slots Q (F0 m pcJ ls (st v))) → ∀ (v : α) (ls : Array Slot), C (n + 1) v → lv_has ls nL (lv v) → W p l e R s m args below meth c H locs cells slots Q (F0 m pcJ ls (st v))) (n : Nat) (v : α) (ls : Array Slot) (hC : C n v) (hl : lv_has ls nL (lv v)) : W p l e R s m args below meth c H locs cells slots Q (F0 m pcJ ls (st v)) := by
  induction n generalizing v ls with
  | zero => exact (h0 v hC).elim
  | succ n ih => exact kJ n (fun v ls h1 h2 => ih v ls h1 h2) v ls hC hl
end WCUT

