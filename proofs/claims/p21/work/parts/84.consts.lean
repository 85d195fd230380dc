-- the two constants of Kind, out of what the statement gives of the start
set_option maxRecDepth 100000 in
set_option maxHeartbeats 4000000 in
theorem kinds_start {args : Array Value} {s : State} (hts : ∀ w ∈ lw_tbl, w.before args s = true) (hgv : (Jvm.Cond.and given_1 narrow_1).before args s = true) : ∃ ad : Nat → Nat, kA ad (LA0 s) s s.heap ∧ kZ ad (LA0 s) s s.heap ∧ ¬ ad 0 = ad 1 := by
  have hs := flat_of_before _ hgv
  have hA : ∀ a : Nat, a < s.heap.size → ¬ LA0 s a := fun a h => Nat.not_le.mpr h
  obtain ⟨ad, hE, hev⟩ := va_Enof2 (args := args) (s := s) (E := "ReckonBench$Kind") (d := "LReckonBench$Kind;") (nm := ["DOUBLE", "SINGLE"]) (F := [("ReckonBench$Kind", "fractionBits", "I", [52, 23]), ("ReckonBench$Kind", "topField", "I", [2047, 255]), ("ReckonBench$Kind", "lowest", "I", [-1074, -149])]) (A := LA0 s)
    (fun i hi => by
      rcases (show i = 0 ∨ i = 1 by simp at hi; omega) with rfl | rfl
      · exact hts (.laysStatic "ReckonBench$Kind" "DOUBLE" "LReckonBench$Kind;") (by decide +kernel)
      · exact hts (.laysStatic "ReckonBench$Kind" "SINGLE" "LReckonBench$Kind;") (by decide +kernel))
    (hts (.initialized "ReckonBench$Kind") (by decide +kernel))
    (fun i hi => by
      rcases (show i = 0 ∨ i = 1 by simp at hi; omega) with rfl | rfl
      · exact hs (.exactly (.static "ReckonBench$Kind" "DOUBLE" "LReckonBench$Kind;") "ReckonBench$Kind") (by decide +kernel)
      · exact hs (.exactly (.static "ReckonBench$Kind" "SINGLE" "LReckonBench$Kind;") "ReckonBench$Kind") (by decide +kernel))
    (fun q hq i hi => by
      simp only [List.mem_cons, List.not_mem_nil, or_false] at hq
      rcases (show i = 0 ∨ i = 1 by simp at hi; omega) with rfl | rfl
      · rcases hq with rfl | rfl | rfl
        · exact hs (.eq (.field (.static "ReckonBench$Kind" "DOUBLE" "LReckonBench$Kind;") "ReckonBench$Kind" "fractionBits" "I") (.int 52)) (by decide +kernel)
        · exact hs (.eq (.field (.static "ReckonBench$Kind" "DOUBLE" "LReckonBench$Kind;") "ReckonBench$Kind" "topField" "I") (.int 2047)) (by decide +kernel)
        · exact hs (.eq (.field (.static "ReckonBench$Kind" "DOUBLE" "LReckonBench$Kind;") "ReckonBench$Kind" "lowest" "I") (.int (-1074))) (by decide +kernel)
      · rcases hq with rfl | rfl | rfl
        · exact hs (.eq (.field (.static "ReckonBench$Kind" "SINGLE" "LReckonBench$Kind;") "ReckonBench$Kind" "fractionBits" "I") (.int 23)) (by decide +kernel)
        · exact hs (.eq (.field (.static "ReckonBench$Kind" "SINGLE" "LReckonBench$Kind;") "ReckonBench$Kind" "topField" "I") (.int 255)) (by decide +kernel)
        · exact hs (.eq (.field (.static "ReckonBench$Kind" "SINGLE" "LReckonBench$Kind;") "ReckonBench$Kind" "lowest" "I") (.int (-149))) (by decide +kernel))
    (fun i j hi hj hij => by
      rcases (show i = 0 ∨ i = 1 by simp at hi; omega) with rfl | rfl <;> rcases (show j = 0 ∨ j = 1 by simp at hj; omega) with rfl | rfl
      · exact absurd rfl hij
      · right; exact hs (.not (.eq (.static "ReckonBench$Kind" "SINGLE" "LReckonBench$Kind;") (.static "ReckonBench$Kind" "DOUBLE" "LReckonBench$Kind;"))) (by decide +kernel)
      · left; exact hs (.not (.eq (.static "ReckonBench$Kind" "SINGLE" "LReckonBench$Kind;") (.static "ReckonBench$Kind" "DOUBLE" "LReckonBench$Kind;"))) (by decide +kernel)
      · exact absurd rfl hij) hA
  have h_sign := va_Efof (args := args) (s := s) (N := 2) (E := "ReckonBench$Kind") (d0 := "LReckonBench$Kind;") (o := "ReckonBench$Kind") (n := "sign") (d := "J") (nm := ["DOUBLE", "SINGLE"]) (v := fun i => .long (ksgn i)) (tm := fun i => .long (ksgn i)) (ad := ad) (A := LA0 s) (fun i hi => hev i hi)
    (fun i hi => by
      rcases two_of hi with rfl | rfl
      · exact hs (.eq (.field (.static "ReckonBench$Kind" "DOUBLE" "LReckonBench$Kind;") "ReckonBench$Kind" "sign" "J") (.long (-9223372036854775808))) (by decide +kernel)
      · exact hs (.eq (.field (.static "ReckonBench$Kind" "SINGLE" "LReckonBench$Kind;") "ReckonBench$Kind" "sign" "J") (.long (2147483648))) (by decide +kernel))
    (fun i hi => rfl) hA
  have h_infinite := va_Efof (args := args) (s := s) (N := 2) (E := "ReckonBench$Kind") (d0 := "LReckonBench$Kind;") (o := "ReckonBench$Kind") (n := "infinite") (d := "J") (nm := ["DOUBLE", "SINGLE"]) (v := fun i => .long (kinf i)) (tm := fun i => .long (kinf i)) (ad := ad) (A := LA0 s) (fun i hi => hev i hi)
    (fun i hi => by
      rcases two_of hi with rfl | rfl
      · exact hs (.eq (.field (.static "ReckonBench$Kind" "DOUBLE" "LReckonBench$Kind;") "ReckonBench$Kind" "infinite" "J") (.long (9218868437227405312))) (by decide +kernel)
      · exact hs (.eq (.field (.static "ReckonBench$Kind" "SINGLE" "LReckonBench$Kind;") "ReckonBench$Kind" "infinite" "J") (.long (2139095040))) (by decide +kernel))
    (fun i hi => rfl) hA
  have h_nan := va_Efof (args := args) (s := s) (N := 2) (E := "ReckonBench$Kind") (d0 := "LReckonBench$Kind;") (o := "ReckonBench$Kind") (n := "nan") (d := "J") (nm := ["DOUBLE", "SINGLE"]) (v := fun i => .long (knan i)) (tm := fun i => .long (knan i)) (ad := ad) (A := LA0 s) (fun i hi => hev i hi)
    (fun i hi => by
      rcases two_of hi with rfl | rfl
      · exact hs (.eq (.field (.static "ReckonBench$Kind" "DOUBLE" "LReckonBench$Kind;") "ReckonBench$Kind" "nan" "J") (.long (9221120237041090560))) (by decide +kernel)
      · exact hs (.eq (.field (.static "ReckonBench$Kind" "SINGLE" "LReckonBench$Kind;") "ReckonBench$Kind" "nan" "J") (.long (2143289344))) (by decide +kernel))
    (fun i hi => rfl) hA
  refine ⟨ad, fun i hi => ?_, ⟨(hE.1 0 (by decide)).1, (hE.1 1 (by decide)).1⟩, fun h => absurd (hE.2 0 1 (by decide) (by decide) h) (by decide)⟩
  have h1 := hE.1 i hi
  have f0 := h1.2.2 ("ReckonBench$Kind", "fractionBits", "I", [52, 23]) (List.mem_of_getElem? (i := 0) rfl)
  have f1 := h1.2.2 ("ReckonBench$Kind", "topField", "I", [2047, 255]) (List.mem_of_getElem? (i := 1) rfl)
  have f2 := h1.2.2 ("ReckonBench$Kind", "lowest", "I", [-1074, -149]) (List.mem_of_getElem? (i := 2) rfl)
  refine ⟨h1.2.1, ?_, ?_, ?_, h_sign i hi, h_infinite i hi, h_nan i hi⟩
  · rcases two_of hi with rfl | rfl <;> exact f0
  · rcases two_of hi with rfl | rfl <;> exact f1
  · rcases two_of hi with rfl | rfl <;> exact f2
