-- ===== PART A: goes FIRST, ahead of the names: the tables' words, and 'selects' of the private methods out of them =====
/-- a private method of a class that the tables say can be made, by its rows of tables_1 -/
def lw_okq (q : MethodName × Nat) : Prop := (q.1.cls ≠ "java/lang/invoke/MethodHandle" ∧ q.1.cls ≠ "java/lang/invoke/VarHandle") ∧ Cond.instantiable q.1.cls q.2 ∈ tables_1 ∧ Cond.privateMethod q.1 ∈ tables_1 ∧ Cond.instanceMethod q.1 ∈ tables_1
theorem lw_p0 : lw_okq (⟨"ReckonBench", "refuse", "(I)I"⟩, 5) := ⟨⟨by decide +kernel, by decide +kernel⟩, List.mem_of_getElem? (i := 15) (by decide +kernel), List.mem_of_getElem? (i := 59) (by decide +kernel), List.mem_of_getElem? (i := 60) (by decide +kernel)⟩
theorem lw_p1 : lw_okq (⟨"ReckonBench", "answer", "(I)I"⟩, 5) := ⟨⟨by decide +kernel, by decide +kernel⟩, List.mem_of_getElem? (i := 15) (by decide +kernel), List.mem_of_getElem? (i := 83) (by decide +kernel), List.mem_of_getElem? (i := 84) (by decide +kernel)⟩
theorem lw_p2 : lw_okq (⟨"ReckonBench", "rowAt", "(I)LReckonBench$Row;"⟩, 5) := ⟨⟨by decide +kernel, by decide +kernel⟩, List.mem_of_getElem? (i := 15) (by decide +kernel), List.mem_of_getElem? (i := 91) (by decide +kernel), List.mem_of_getElem? (i := 92) (by decide +kernel)⟩
theorem lw_p3 : lw_okq (⟨"ReckonBench", "refuseLong", "(I)J"⟩, 5) := ⟨⟨by decide +kernel, by decide +kernel⟩, List.mem_of_getElem? (i := 15) (by decide +kernel), List.mem_of_getElem? (i := 155) (by decide +kernel), List.mem_of_getElem? (i := 156) (by decide +kernel)⟩
theorem lw_p4 : lw_okq (⟨"ReckonBench", "answerLong", "(J)J"⟩, 5) := ⟨⟨by decide +kernel, by decide +kernel⟩, List.mem_of_getElem? (i := 15) (by decide +kernel), List.mem_of_getElem? (i := 159) (by decide +kernel), List.mem_of_getElem? (i := 160) (by decide +kernel)⟩
theorem lw_p5 : lw_okq (⟨"ReckonBench$Kind", "exponentField", "(J)I"⟩, 9) := ⟨⟨by decide +kernel, by decide +kernel⟩, List.mem_of_getElem? (i := 178) (by decide +kernel), List.mem_of_getElem? (i := 176) (by decide +kernel), List.mem_of_getElem? (i := 177) (by decide +kernel)⟩
theorem lw_p6 : lw_okq (⟨"ReckonBench$Sorter", "merge", "(LReckonBench$Row;IIII)V"⟩, 2) := ⟨⟨by decide +kernel, by decide +kernel⟩, List.mem_of_getElem? (i := 25) (by decide +kernel), List.mem_of_getElem? (i := 246) (by decide +kernel), List.mem_of_getElem? (i := 247) (by decide +kernel)⟩
theorem lw_p7 : lw_okq (⟨"ReckonBench$Sorter", "changed", "([J)I"⟩, 2) := ⟨⟨by decide +kernel, by decide +kernel⟩, List.mem_of_getElem? (i := 25) (by decide +kernel), List.mem_of_getElem? (i := 255) (by decide +kernel), List.mem_of_getElem? (i := 256) (by decide +kernel)⟩
theorem lw_p8 : lw_okq (⟨"ReckonBench$Row", "isBeyond", "(JJZ)Z"⟩, 2) := ⟨⟨by decide +kernel, by decide +kernel⟩, List.mem_of_getElem? (i := 62) (by decide +kernel), List.mem_of_getElem? (i := 350) (by decide +kernel), List.mem_of_getElem? (i := 351) (by decide +kernel)⟩
theorem lw_p9 : lw_okq (⟨"ReckonBench$Interval", "outward", "(JJ)LReckonBench$Interval;"⟩, 3) := ⟨⟨by decide +kernel, by decide +kernel⟩, List.mem_of_getElem? (i := 402) (by decide +kernel), List.mem_of_getElem? (i := 445) (by decide +kernel), List.mem_of_getElem? (i := 446) (by decide +kernel)⟩
theorem lw_p10 : lw_okq (⟨"ReckonBench$Interval", "product", "(JJ)J"⟩, 3) := ⟨⟨by decide +kernel, by decide +kernel⟩, List.mem_of_getElem? (i := 402) (by decide +kernel), List.mem_of_getElem? (i := 452) (by decide +kernel), List.mem_of_getElem? (i := 453) (by decide +kernel)⟩
theorem lw_p11 : lw_okq (⟨"ReckonBench$Interval", "zeroIfNan", "(J)J"⟩, 3) := ⟨⟨by decide +kernel, by decide +kernel⟩, List.mem_of_getElem? (i := 402) (by decide +kernel), List.mem_of_getElem? (i := 457) (by decide +kernel), List.mem_of_getElem? (i := 458) (by decide +kernel)⟩
theorem lw_p12 : lw_okq (⟨"ReckonBench$Interval", "ofFour", "(JJJJ)LReckonBench$Interval;"⟩, 3) := ⟨⟨by decide +kernel, by decide +kernel⟩, List.mem_of_getElem? (i := 402) (by decide +kernel), List.mem_of_getElem? (i := 461) (by decide +kernel), List.mem_of_getElem? (i := 462) (by decide +kernel)⟩
theorem lw_p13 : lw_okq (⟨"ReckonBench$Interval", "quotient", "(JJ)J"⟩, 3) := ⟨⟨by decide +kernel, by decide +kernel⟩, List.mem_of_getElem? (i := 402) (by decide +kernel), List.mem_of_getElem? (i := 467) (by decide +kernel), List.mem_of_getElem? (i := 468) (by decide +kernel)⟩
theorem lw_p14 : lw_okq (⟨"ReckonBenchModel", "no", "(I)I"⟩, 18) := ⟨⟨by decide +kernel, by decide +kernel⟩, List.mem_of_getElem? (i := 487) (by decide +kernel), List.mem_of_getElem? (i := 561) (by decide +kernel), List.mem_of_getElem? (i := 562) (by decide +kernel)⟩
theorem lw_p15 : lw_okq (⟨"ReckonBenchModel", "bad", "(II)I"⟩, 18) := ⟨⟨by decide +kernel, by decide +kernel⟩, List.mem_of_getElem? (i := 487) (by decide +kernel), List.mem_of_getElem? (i := 569) (by decide +kernel), List.mem_of_getElem? (i := 570) (by decide +kernel)⟩
def lw_privs_1 : List (MethodName × Nat) := [(⟨"ReckonBench", "refuse", "(I)I"⟩, 5), (⟨"ReckonBench", "answer", "(I)I"⟩, 5), (⟨"ReckonBench", "rowAt", "(I)LReckonBench$Row;"⟩, 5), (⟨"ReckonBench", "refuseLong", "(I)J"⟩, 5), (⟨"ReckonBench", "answerLong", "(J)J"⟩, 5), (⟨"ReckonBench$Kind", "exponentField", "(J)I"⟩, 9), (⟨"ReckonBench$Sorter", "merge", "(LReckonBench$Row;IIII)V"⟩, 2), (⟨"ReckonBench$Sorter", "changed", "([J)I"⟩, 2), (⟨"ReckonBench$Row", "isBeyond", "(JJZ)Z"⟩, 2), (⟨"ReckonBench$Interval", "outward", "(JJ)LReckonBench$Interval;"⟩, 3), (⟨"ReckonBench$Interval", "product", "(JJ)J"⟩, 3), (⟨"ReckonBench$Interval", "zeroIfNan", "(J)J"⟩, 3), (⟨"ReckonBench$Interval", "ofFour", "(JJJJ)LReckonBench$Interval;"⟩, 3), (⟨"ReckonBench$Interval", "quotient", "(JJ)J"⟩, 3), (⟨"ReckonBenchModel", "no", "(I)I"⟩, 18), (⟨"ReckonBenchModel", "bad", "(II)I"⟩, 18)]
theorem lw_r1 : ∀ q ∈ lw_privs_1, lw_okq q := List.forall_mem_cons.mpr ⟨lw_p0, List.forall_mem_cons.mpr ⟨lw_p1, List.forall_mem_cons.mpr ⟨lw_p2, List.forall_mem_cons.mpr ⟨lw_p3, List.forall_mem_cons.mpr ⟨lw_p4, List.forall_mem_cons.mpr ⟨lw_p5, List.forall_mem_cons.mpr ⟨lw_p6, List.forall_mem_cons.mpr ⟨lw_p7, List.forall_mem_cons.mpr ⟨lw_p8, List.forall_mem_cons.mpr ⟨lw_p9, List.forall_mem_cons.mpr ⟨lw_p10, List.forall_mem_cons.mpr ⟨lw_p11, List.forall_mem_cons.mpr ⟨lw_p12, List.forall_mem_cons.mpr ⟨lw_p13, List.forall_mem_cons.mpr ⟨lw_p14, List.forall_mem_cons.mpr ⟨lw_p15, fun _ h => absurd h List.not_mem_nil⟩⟩⟩⟩⟩⟩⟩⟩⟩⟩⟩⟩⟩⟩⟩⟩
theorem lw_p16 : lw_okq (⟨"ReckonBenchModel", "size", "(I)I"⟩, 18) := ⟨⟨by decide +kernel, by decide +kernel⟩, List.mem_of_getElem? (i := 487) (by decide +kernel), List.mem_of_getElem? (i := 573) (by decide +kernel), List.mem_of_getElem? (i := 574) (by decide +kernel)⟩
theorem lw_p17 : lw_okq (⟨"ReckonBenchModel", "clean", "(IJ)J"⟩, 18) := ⟨⟨by decide +kernel, by decide +kernel⟩, List.mem_of_getElem? (i := 487) (by decide +kernel), List.mem_of_getElem? (i := 577) (by decide +kernel), List.mem_of_getElem? (i := 578) (by decide +kernel)⟩
theorem lw_p18 : lw_okq (⟨"ReckonBenchModel", "unsigned", "(IJ)J"⟩, 18) := ⟨⟨by decide +kernel, by decide +kernel⟩, List.mem_of_getElem? (i := 487) (by decide +kernel), List.mem_of_getElem? (i := 582) (by decide +kernel), List.mem_of_getElem? (i := 583) (by decide +kernel)⟩
theorem lw_p19 : lw_okq (⟨"ReckonBenchModel", "keep", "(IIJ)I"⟩, 18) := ⟨⟨by decide +kernel, by decide +kernel⟩, List.mem_of_getElem? (i := 487) (by decide +kernel), List.mem_of_getElem? (i := 587) (by decide +kernel), List.mem_of_getElem? (i := 588) (by decide +kernel)⟩
theorem lw_p20 : lw_okq (⟨"ReckonBenchModel", "sortOf", "(IJ)I"⟩, 18) := ⟨⟨by decide +kernel, by decide +kernel⟩, List.mem_of_getElem? (i := 487) (by decide +kernel), List.mem_of_getElem? (i := 591) (by decide +kernel), List.mem_of_getElem? (i := 592) (by decide +kernel)⟩
theorem lw_p21 : lw_okq (⟨"ReckonBenchModel", "none", "(IJ)Z"⟩, 18) := ⟨⟨by decide +kernel, by decide +kernel⟩, List.mem_of_getElem? (i := 487) (by decide +kernel), List.mem_of_getElem? (i := 595) (by decide +kernel), List.mem_of_getElem? (i := 596) (by decide +kernel)⟩
theorem lw_p22 : lw_okq (⟨"ReckonBenchModel", "zero", "(IJ)Z"⟩, 18) := ⟨⟨by decide +kernel, by decide +kernel⟩, List.mem_of_getElem? (i := 487) (by decide +kernel), List.mem_of_getElem? (i := 599) (by decide +kernel), List.mem_of_getElem? (i := 600) (by decide +kernel)⟩
theorem lw_p23 : lw_okq (⟨"ReckonBenchModel", "infinite", "(IJ)Z"⟩, 18) := ⟨⟨by decide +kernel, by decide +kernel⟩, List.mem_of_getElem? (i := 487) (by decide +kernel), List.mem_of_getElem? (i := 603) (by decide +kernel), List.mem_of_getElem? (i := 604) (by decide +kernel)⟩
theorem lw_p24 : lw_okq (⟨"ReckonBenchModel", "minus", "(IJ)Z"⟩, 18) := ⟨⟨by decide +kernel, by decide +kernel⟩, List.mem_of_getElem? (i := 487) (by decide +kernel), List.mem_of_getElem? (i := 607) (by decide +kernel), List.mem_of_getElem? (i := 608) (by decide +kernel)⟩
theorem lw_p25 : lw_okq (⟨"ReckonBenchModel", "round", "(IZJIZ)J"⟩, 18) := ⟨⟨by decide +kernel, by decide +kernel⟩, List.mem_of_getElem? (i := 487) (by decide +kernel), List.mem_of_getElem? (i := 616) (by decide +kernel), List.mem_of_getElem? (i := 617) (by decide +kernel)⟩
theorem lw_p26 : lw_okq (⟨"ReckonBenchModel", "signed", "(IJZ)J"⟩, 18) := ⟨⟨by decide +kernel, by decide +kernel⟩, List.mem_of_getElem? (i := 487) (by decide +kernel), List.mem_of_getElem? (i := 620) (by decide +kernel), List.mem_of_getElem? (i := 621) (by decide +kernel)⟩
theorem lw_p27 : lw_okq (⟨"ReckonBenchModel", "at", "(II)J"⟩, 18) := ⟨⟨by decide +kernel, by decide +kernel⟩, List.mem_of_getElem? (i := 487) (by decide +kernel), List.mem_of_getElem? (i := 628) (by decide +kernel), List.mem_of_getElem? (i := 629) (by decide +kernel)⟩
theorem lw_p28 : lw_okq (⟨"ReckonBenchModel", "power", "(IJ)I"⟩, 18) := ⟨⟨by decide +kernel, by decide +kernel⟩, List.mem_of_getElem? (i := 487) (by decide +kernel), List.mem_of_getElem? (i := 638) (by decide +kernel), List.mem_of_getElem? (i := 639) (by decide +kernel)⟩
theorem lw_p29 : lw_okq (⟨"ReckonBenchModel", "mantissa", "(IJ)J"⟩, 18) := ⟨⟨by decide +kernel, by decide +kernel⟩, List.mem_of_getElem? (i := 487) (by decide +kernel), List.mem_of_getElem? (i := 642) (by decide +kernel), List.mem_of_getElem? (i := 643) (by decide +kernel)⟩
theorem lw_p30 : lw_okq (⟨"ReckonBenchModel", "outside", "(II)Z"⟩, 18) := ⟨⟨by decide +kernel, by decide +kernel⟩, List.mem_of_getElem? (i := 487) (by decide +kernel), List.mem_of_getElem? (i := 650) (by decide +kernel), List.mem_of_getElem? (i := 651) (by decide +kernel)⟩
theorem lw_p31 : lw_okq (⟨"ReckonBenchModel", "rank", "(IJ)J"⟩, 18) := ⟨⟨by decide +kernel, by decide +kernel⟩, List.mem_of_getElem? (i := 487) (by decide +kernel), List.mem_of_getElem? (i := 654) (by decide +kernel), List.mem_of_getElem? (i := 655) (by decide +kernel)⟩
def lw_privs_2 : List (MethodName × Nat) := [(⟨"ReckonBenchModel", "size", "(I)I"⟩, 18), (⟨"ReckonBenchModel", "clean", "(IJ)J"⟩, 18), (⟨"ReckonBenchModel", "unsigned", "(IJ)J"⟩, 18), (⟨"ReckonBenchModel", "keep", "(IIJ)I"⟩, 18), (⟨"ReckonBenchModel", "sortOf", "(IJ)I"⟩, 18), (⟨"ReckonBenchModel", "none", "(IJ)Z"⟩, 18), (⟨"ReckonBenchModel", "zero", "(IJ)Z"⟩, 18), (⟨"ReckonBenchModel", "infinite", "(IJ)Z"⟩, 18), (⟨"ReckonBenchModel", "minus", "(IJ)Z"⟩, 18), (⟨"ReckonBenchModel", "round", "(IZJIZ)J"⟩, 18), (⟨"ReckonBenchModel", "signed", "(IJZ)J"⟩, 18), (⟨"ReckonBenchModel", "at", "(II)J"⟩, 18), (⟨"ReckonBenchModel", "power", "(IJ)I"⟩, 18), (⟨"ReckonBenchModel", "mantissa", "(IJ)J"⟩, 18), (⟨"ReckonBenchModel", "outside", "(II)Z"⟩, 18), (⟨"ReckonBenchModel", "rank", "(IJ)J"⟩, 18)]
theorem lw_r2 : ∀ q ∈ lw_privs_2, lw_okq q := List.forall_mem_cons.mpr ⟨lw_p16, List.forall_mem_cons.mpr ⟨lw_p17, List.forall_mem_cons.mpr ⟨lw_p18, List.forall_mem_cons.mpr ⟨lw_p19, List.forall_mem_cons.mpr ⟨lw_p20, List.forall_mem_cons.mpr ⟨lw_p21, List.forall_mem_cons.mpr ⟨lw_p22, List.forall_mem_cons.mpr ⟨lw_p23, List.forall_mem_cons.mpr ⟨lw_p24, List.forall_mem_cons.mpr ⟨lw_p25, List.forall_mem_cons.mpr ⟨lw_p26, List.forall_mem_cons.mpr ⟨lw_p27, List.forall_mem_cons.mpr ⟨lw_p28, List.forall_mem_cons.mpr ⟨lw_p29, List.forall_mem_cons.mpr ⟨lw_p30, List.forall_mem_cons.mpr ⟨lw_p31, fun _ h => absurd h List.not_mem_nil⟩⟩⟩⟩⟩⟩⟩⟩⟩⟩⟩⟩⟩⟩⟩⟩
theorem lw_p32 : lw_okq (⟨"ReckonBenchModel", "order", "(IJJ)I"⟩, 18) := ⟨⟨by decide +kernel, by decide +kernel⟩, List.mem_of_getElem? (i := 487) (by decide +kernel), List.mem_of_getElem? (i := 667) (by decide +kernel), List.mem_of_getElem? (i := 668) (by decide +kernel)⟩
theorem lw_p33 : lw_okq (⟨"ReckonBenchModel", "merge", "(IIIII)V"⟩, 18) := ⟨⟨by decide +kernel, by decide +kernel⟩, List.mem_of_getElem? (i := 487) (by decide +kernel), List.mem_of_getElem? (i := 675) (by decide +kernel), List.mem_of_getElem? (i := 676) (by decide +kernel)⟩
theorem lw_p34 : lw_okq (⟨"ReckonBenchModel", "behind", "(IIJJ)Z"⟩, 18) := ⟨⟨by decide +kernel, by decide +kernel⟩, List.mem_of_getElem? (i := 487) (by decide +kernel), List.mem_of_getElem? (i := 679) (by decide +kernel), List.mem_of_getElem? (i := 680) (by decide +kernel)⟩
theorem lw_p35 : lw_okq (⟨"ReckonBenchModel", "result", "(IIJJ)J"⟩, 18) := ⟨⟨by decide +kernel, by decide +kernel⟩, List.mem_of_getElem? (i := 487) (by decide +kernel), List.mem_of_getElem? (i := 687) (by decide +kernel), List.mem_of_getElem? (i := 688) (by decide +kernel)⟩
theorem lw_p36 : lw_okq (⟨"ReckonBenchModel", "greater", "(IJJ)J"⟩, 18) := ⟨⟨by decide +kernel, by decide +kernel⟩, List.mem_of_getElem? (i := 487) (by decide +kernel), List.mem_of_getElem? (i := 691) (by decide +kernel), List.mem_of_getElem? (i := 692) (by decide +kernel)⟩
theorem lw_p37 : lw_okq (⟨"ReckonBenchModel", "lesser", "(IJJ)J"⟩, 18) := ⟨⟨by decide +kernel, by decide +kernel⟩, List.mem_of_getElem? (i := 487) (by decide +kernel), List.mem_of_getElem? (i := 695) (by decide +kernel), List.mem_of_getElem? (i := 696) (by decide +kernel)⟩
theorem lw_p38 : lw_okq (⟨"ReckonBenchModel", "wholeOf", "(IJI)J"⟩, 18) := ⟨⟨by decide +kernel, by decide +kernel⟩, List.mem_of_getElem? (i := 487) (by decide +kernel), List.mem_of_getElem? (i := 699) (by decide +kernel), List.mem_of_getElem? (i := 700) (by decide +kernel)⟩
theorem lw_p39 : lw_okq (⟨"ReckonBenchModel", "plus", "(IJJ)J"⟩, 18) := ⟨⟨by decide +kernel, by decide +kernel⟩, List.mem_of_getElem? (i := 487) (by decide +kernel), List.mem_of_getElem? (i := 703) (by decide +kernel), List.mem_of_getElem? (i := 704) (by decide +kernel)⟩
theorem lw_p40 : lw_okq (⟨"ReckonBenchModel", "larger", "(IJJ)J"⟩, 18) := ⟨⟨by decide +kernel, by decide +kernel⟩, List.mem_of_getElem? (i := 487) (by decide +kernel), List.mem_of_getElem? (i := 707) (by decide +kernel), List.mem_of_getElem? (i := 708) (by decide +kernel)⟩
theorem lw_p41 : lw_okq (⟨"ReckonBenchModel", "turned", "(IJ)J"⟩, 18) := ⟨⟨by decide +kernel, by decide +kernel⟩, List.mem_of_getElem? (i := 487) (by decide +kernel), List.mem_of_getElem? (i := 711) (by decide +kernel), List.mem_of_getElem? (i := 712) (by decide +kernel)⟩
theorem lw_p42 : lw_okq (⟨"ReckonBenchModel", "times", "(IJJ)J"⟩, 18) := ⟨⟨by decide +kernel, by decide +kernel⟩, List.mem_of_getElem? (i := 487) (by decide +kernel), List.mem_of_getElem? (i := 715) (by decide +kernel), List.mem_of_getElem? (i := 716) (by decide +kernel)⟩
theorem lw_p43 : lw_okq (⟨"ReckonBenchModel", "over", "(IJJ)J"⟩, 18) := ⟨⟨by decide +kernel, by decide +kernel⟩, List.mem_of_getElem? (i := 487) (by decide +kernel), List.mem_of_getElem? (i := 721) (by decide +kernel), List.mem_of_getElem? (i := 722) (by decide +kernel)⟩
theorem lw_p44 : lw_okq (⟨"ReckonBenchModel", "left", "(IJJ)J"⟩, 18) := ⟨⟨by decide +kernel, by decide +kernel⟩, List.mem_of_getElem? (i := 487) (by decide +kernel), List.mem_of_getElem? (i := 725) (by decide +kernel), List.mem_of_getElem? (i := 726) (by decide +kernel)⟩
theorem lw_p45 : lw_okq (⟨"ReckonBenchModel", "ofRank", "(IJZ)J"⟩, 18) := ⟨⟨by decide +kernel, by decide +kernel⟩, List.mem_of_getElem? (i := 487) (by decide +kernel), List.mem_of_getElem? (i := 735) (by decide +kernel), List.mem_of_getElem? (i := 736) (by decide +kernel)⟩
theorem lw_p46 : lw_okq (⟨"ReckonBenchModel", "farthest", "(IZ)I"⟩, 18) := ⟨⟨by decide +kernel, by decide +kernel⟩, List.mem_of_getElem? (i := 487) (by decide +kernel), List.mem_of_getElem? (i := 743) (by decide +kernel), List.mem_of_getElem? (i := 744) (by decide +kernel)⟩
theorem lw_p47 : lw_okq (⟨"ReckonBenchModel", "halves", "(I)J"⟩, 18) := ⟨⟨by decide +kernel, by decide +kernel⟩, List.mem_of_getElem? (i := 487) (by decide +kernel), List.mem_of_getElem? (i := 755) (by decide +kernel), List.mem_of_getElem? (i := 756) (by decide +kernel)⟩
def lw_privs_3 : List (MethodName × Nat) := [(⟨"ReckonBenchModel", "order", "(IJJ)I"⟩, 18), (⟨"ReckonBenchModel", "merge", "(IIIII)V"⟩, 18), (⟨"ReckonBenchModel", "behind", "(IIJJ)Z"⟩, 18), (⟨"ReckonBenchModel", "result", "(IIJJ)J"⟩, 18), (⟨"ReckonBenchModel", "greater", "(IJJ)J"⟩, 18), (⟨"ReckonBenchModel", "lesser", "(IJJ)J"⟩, 18), (⟨"ReckonBenchModel", "wholeOf", "(IJI)J"⟩, 18), (⟨"ReckonBenchModel", "plus", "(IJJ)J"⟩, 18), (⟨"ReckonBenchModel", "larger", "(IJJ)J"⟩, 18), (⟨"ReckonBenchModel", "turned", "(IJ)J"⟩, 18), (⟨"ReckonBenchModel", "times", "(IJJ)J"⟩, 18), (⟨"ReckonBenchModel", "over", "(IJJ)J"⟩, 18), (⟨"ReckonBenchModel", "left", "(IJJ)J"⟩, 18), (⟨"ReckonBenchModel", "ofRank", "(IJZ)J"⟩, 18), (⟨"ReckonBenchModel", "farthest", "(IZ)I"⟩, 18), (⟨"ReckonBenchModel", "halves", "(I)J"⟩, 18)]
theorem lw_r3 : ∀ q ∈ lw_privs_3, lw_okq q := List.forall_mem_cons.mpr ⟨lw_p32, List.forall_mem_cons.mpr ⟨lw_p33, List.forall_mem_cons.mpr ⟨lw_p34, List.forall_mem_cons.mpr ⟨lw_p35, List.forall_mem_cons.mpr ⟨lw_p36, List.forall_mem_cons.mpr ⟨lw_p37, List.forall_mem_cons.mpr ⟨lw_p38, List.forall_mem_cons.mpr ⟨lw_p39, List.forall_mem_cons.mpr ⟨lw_p40, List.forall_mem_cons.mpr ⟨lw_p41, List.forall_mem_cons.mpr ⟨lw_p42, List.forall_mem_cons.mpr ⟨lw_p43, List.forall_mem_cons.mpr ⟨lw_p44, List.forall_mem_cons.mpr ⟨lw_p45, List.forall_mem_cons.mpr ⟨lw_p46, List.forall_mem_cons.mpr ⟨lw_p47, fun _ h => absurd h List.not_mem_nil⟩⟩⟩⟩⟩⟩⟩⟩⟩⟩⟩⟩⟩⟩⟩⟩
theorem lw_p48 : lw_okq (⟨"ReckonBenchModel", "noPair", "(II)Z"⟩, 18) := ⟨⟨by decide +kernel, by decide +kernel⟩, List.mem_of_getElem? (i := 487) (by decide +kernel), List.mem_of_getElem? (i := 767) (by decide +kernel), List.mem_of_getElem? (i := 768) (by decide +kernel)⟩
theorem lw_p49 : lw_okq (⟨"ReckonBenchModel", "isInterval", "(II)Z"⟩, 18) := ⟨⟨by decide +kernel, by decide +kernel⟩, List.mem_of_getElem? (i := 487) (by decide +kernel), List.mem_of_getElem? (i := 771) (by decide +kernel), List.mem_of_getElem? (i := 772) (by decide +kernel)⟩
theorem lw_p50 : lw_okq (⟨"ReckonBenchModel", "bounds", "(IIJJ)V"⟩, 18) := ⟨⟨by decide +kernel, by decide +kernel⟩, List.mem_of_getElem? (i := 487) (by decide +kernel), List.mem_of_getElem? (i := 775) (by decide +kernel), List.mem_of_getElem? (i := 776) (by decide +kernel)⟩
theorem lw_p51 : lw_okq (⟨"ReckonBenchModel", "meet", "(IIJJ)I"⟩, 18) := ⟨⟨by decide +kernel, by decide +kernel⟩, List.mem_of_getElem? (i := 487) (by decide +kernel), List.mem_of_getElem? (i := 779) (by decide +kernel), List.mem_of_getElem? (i := 780) (by decide +kernel)⟩
theorem lw_p52 : lw_okq (⟨"ReckonBenchModel", "member", "(IIJJ)J"⟩, 18) := ⟨⟨by decide +kernel, by decide +kernel⟩, List.mem_of_getElem? (i := 487) (by decide +kernel), List.mem_of_getElem? (i := 783) (by decide +kernel), List.mem_of_getElem? (i := 784) (by decide +kernel)⟩
theorem lw_p53 : lw_okq (⟨"ReckonBenchModel", "downward", "(IJ)J"⟩, 18) := ⟨⟨by decide +kernel, by decide +kernel⟩, List.mem_of_getElem? (i := 487) (by decide +kernel), List.mem_of_getElem? (i := 787) (by decide +kernel), List.mem_of_getElem? (i := 788) (by decide +kernel)⟩
theorem lw_p54 : lw_okq (⟨"ReckonBenchModel", "upward", "(IJ)J"⟩, 18) := ⟨⟨by decide +kernel, by decide +kernel⟩, List.mem_of_getElem? (i := 487) (by decide +kernel), List.mem_of_getElem? (i := 791) (by decide +kernel), List.mem_of_getElem? (i := 792) (by decide +kernel)⟩
theorem lw_p55 : lw_okq (⟨"ReckonBenchModel", "turnedTo", "(IIJ)J"⟩, 18) := ⟨⟨by decide +kernel, by decide +kernel⟩, List.mem_of_getElem? (i := 487) (by decide +kernel), List.mem_of_getElem? (i := 799) (by decide +kernel), List.mem_of_getElem? (i := 800) (by decide +kernel)⟩
def lw_privs_4 : List (MethodName × Nat) := [(⟨"ReckonBenchModel", "noPair", "(II)Z"⟩, 18), (⟨"ReckonBenchModel", "isInterval", "(II)Z"⟩, 18), (⟨"ReckonBenchModel", "bounds", "(IIJJ)V"⟩, 18), (⟨"ReckonBenchModel", "meet", "(IIJJ)I"⟩, 18), (⟨"ReckonBenchModel", "member", "(IIJJ)J"⟩, 18), (⟨"ReckonBenchModel", "downward", "(IJ)J"⟩, 18), (⟨"ReckonBenchModel", "upward", "(IJ)J"⟩, 18), (⟨"ReckonBenchModel", "turnedTo", "(IIJ)J"⟩, 18)]
theorem lw_r4 : ∀ q ∈ lw_privs_4, lw_okq q := List.forall_mem_cons.mpr ⟨lw_p48, List.forall_mem_cons.mpr ⟨lw_p49, List.forall_mem_cons.mpr ⟨lw_p50, List.forall_mem_cons.mpr ⟨lw_p51, List.forall_mem_cons.mpr ⟨lw_p52, List.forall_mem_cons.mpr ⟨lw_p53, List.forall_mem_cons.mpr ⟨lw_p54, List.forall_mem_cons.mpr ⟨lw_p55, fun _ h => absurd h List.not_mem_nil⟩⟩⟩⟩⟩⟩⟩⟩
def lw_privs : List (MethodName × Nat) := lw_privs_1 ++ (lw_privs_2 ++ (lw_privs_3 ++ (lw_privs_4)))
def lw_tbl : List Cond := k2_sels lw_privs ++ tables_1
theorem lw_privs_ok : ∀ q ∈ lw_privs, lw_okq q := by
  show ∀ q ∈ lw_privs_1 ++ (lw_privs_2 ++ (lw_privs_3 ++ (lw_privs_4))), lw_okq q
  exact List.forall_mem_append.mpr ⟨lw_r1, List.forall_mem_append.mpr ⟨lw_r2, List.forall_mem_append.mpr ⟨lw_r3, lw_r4⟩⟩⟩
/-! ===== BEGIN words of one list among another's, by their places ===== -/
theorem goodIn_r {big : List Cond} (ws : List Cond) (ps : List Nat) (hp : ws = ps.filterMap (fun i => big[i]?)) (h : ws.all goodWord = true) : GoodIn big ws := by
  intro w hw
  have h1 := List.all_eq_true.mp h w hw
  rw [hp] at hw
  obtain ⟨i, -, hi⟩ := List.mem_filterMap.mp hw
  have hm : w ∈ big := by first | exact List.mem_of_getElem? hi | exact List.getElem?_mem hi
  exact ⟨hm, good_of_word h1⟩
theorem goodIn_app {big a b : List Cond} (ha : GoodIn big a) (hb : GoodIn big b) : GoodIn big (a ++ b) := fun w h => (List.mem_append.mp h).elim (ha w) (hb w)
theorem goodIn_ca {big a b : List Cond} {c : Cond} (ha : GoodIn big (c :: a)) (hb : GoodIn big b) : GoodIn big (c :: (a ++ b)) := fun w h => (List.mem_cons.mp h).elim (fun e => ha w (List.mem_cons.mpr (Or.inl e))) (fun h => (List.mem_append.mp h).elim (fun h => ha w (List.mem_cons.mpr (Or.inr h))) (hb w))
theorem goodIn_sub {big ws : List Cond} (hm : ∀ w ∈ ws, w ∈ big) (h : ws.all goodWord = true) : GoodIn big ws := fun w hw => ⟨hm w hw, good_of_word (List.all_eq_true.mp h w hw)⟩
/-! ===== END ===== -/

/-! ===== BEGIN printed: names, fields, word lists, decode rows ===== -/
def RX0 : String := "ReckonBench$Interval"
def TX0 : u_T := fun k => match k with
  | 0 => ("ReckonBench$Interval", "kind", "LReckonBench$Kind;", true)
  | 1 => ("ReckonBench$Interval", "low", "J", true)
  | _ => ("ReckonBench$Interval", "high", "J", true)
def tyX0 : Nat → FieldType := fun k => match k with
  | 0 => .object "ReckonBench$Kind"
  | 1 => .long
  | _ => .long
abbrev wsX00 : List Cond := u_ws RX0 TX0 3
theorem nmX0 : ∀ a, a < 3 → ∀ b, b < 3 → a ≠ b → (TX0 a).2.1 ≠ (TX0 b).2.1 := by decide +kernel
theorem tyX0_ok : ∀ k, k < 3 → parseFieldDescriptor (TX0 k).2.2.1 = some (tyX0 k) := by decide +kernel
abbrev cX0_init : ByteArray := prog_2_method_1_code
def yX0_init : MethodName := ⟨RX0, "<init>", "(LReckonBench$Kind;JJ)V"⟩
abbrev cX0_stands : ByteArray := prog_2_method_2_code
def yX0_stands : MethodName := ⟨RX0, "stands", "()Z"⟩
abbrev cX0_hasZero : ByteArray := prog_2_method_3_code
def yX0_hasZero : MethodName := ⟨RX0, "hasZero", "()Z"⟩
abbrev cX0_everything : ByteArray := prog_2_method_4_code
def yX0_everything : MethodName := ⟨RX0, "everything", "()LReckonBench$Interval;"⟩
abbrev cX0_nothing : ByteArray := prog_2_method_5_code
def yX0_nothing : MethodName := ⟨RX0, "nothing", "()LReckonBench$Interval;"⟩
abbrev cX0_acted : ByteArray := prog_2_method_6_code
def yX0_acted : MethodName := ⟨RX0, "acted", "(ILReckonBench$Interval;)LReckonBench$Interval;"⟩
abbrev cX0_product : ByteArray := prog_2_method_7_code
def yX0_product : MethodName := ⟨RX0, "product", "(JJ)J"⟩
abbrev cX0_quotient : ByteArray := prog_2_method_8_code
def yX0_quotient : MethodName := ⟨RX0, "quotient", "(JJ)J"⟩
abbrev cX0_zeroIfNan : ByteArray := prog_2_method_9_code
def yX0_zeroIfNan : MethodName := ⟨RX0, "zeroIfNan", "(J)J"⟩
abbrev cX0_ofFour : ByteArray := prog_2_method_10_code
def yX0_ofFour : MethodName := ⟨RX0, "ofFour", "(JJJJ)LReckonBench$Interval;"⟩
abbrev cX0_outward : ByteArray := prog_2_method_11_code
def yX0_outward : MethodName := ⟨RX0, "outward", "(JJ)LReckonBench$Interval;"⟩
def RX1 : String := "ReckonBench$Kind"
def TX1 : u_T := fun k => match k with
  | _ => ("", "", "", false)
def tyX1 : Nat → FieldType := fun k => match k with
  | _ => .int
abbrev wsX10 : List Cond := u_ws RX1 TX1 0
theorem nmX1 : ∀ a, a < 0 → ∀ b, b < 0 → a ≠ b → (TX1 a).2.1 ≠ (TX1 b).2.1 := by decide +kernel
theorem tyX1_ok : ∀ k, k < 0 → parseFieldDescriptor (TX1 k).2.2.1 = some (tyX1 k) := by decide +kernel
abbrev cX1_cleaned : ByteArray := prog_3_method_4_code
def yX1_cleaned : MethodName := ⟨RX1, "cleaned", "(J)J"⟩
abbrev cX1_magnitude : ByteArray := prog_3_method_5_code
def yX1_magnitude : MethodName := ⟨RX1, "magnitude", "(J)J"⟩
abbrev cX1_isNegative : ByteArray := prog_3_method_6_code
def yX1_isNegative : MethodName := ⟨RX1, "isNegative", "(J)Z"⟩
abbrev cX1_isNan : ByteArray := prog_3_method_7_code
def yX1_isNan : MethodName := ⟨RX1, "isNan", "(J)Z"⟩
abbrev cX1_isInfinite : ByteArray := prog_3_method_8_code
def yX1_isInfinite : MethodName := ⟨RX1, "isInfinite", "(J)Z"⟩
abbrev cX1_signed : ByteArray := prog_3_method_9_code
def yX1_signed : MethodName := ⟨RX1, "signed", "(ZJ)J"⟩
abbrev cX1_opposite : ByteArray := prog_3_method_10_code
def yX1_opposite : MethodName := ⟨RX1, "opposite", "(J)J"⟩
abbrev cX1_one : ByteArray := prog_3_method_11_code
def yX1_one : MethodName := ⟨RX1, "one", "()J"⟩
abbrev cX1_sortOf : ByteArray := prog_3_method_12_code
def yX1_sortOf : MethodName := ⟨RX1, "sortOf", "(J)I"⟩
abbrev cX1_significand : ByteArray := prog_3_method_13_code
def yX1_significand : MethodName := ⟨RX1, "significand", "(J)J"⟩
abbrev cX1_exponent : ByteArray := prog_3_method_14_code
def yX1_exponent : MethodName := ⟨RX1, "exponent", "(J)I"⟩
abbrev cX1_exponentField : ByteArray := prog_3_method_15_code
def yX1_exponentField : MethodName := ⟨RX1, "exponentField", "(J)I"⟩
abbrev cX1_valueRank : ByteArray := prog_3_method_16_code
def yX1_valueRank : MethodName := ⟨RX1, "valueRank", "(J)J"⟩
abbrev cX1_totalRank : ByteArray := prog_3_method_17_code
def yX1_totalRank : MethodName := ⟨RX1, "totalRank", "(J)J"⟩
abbrev cX1_isBelow : ByteArray := prog_3_method_18_code
def yX1_isBelow : MethodName := ⟨RX1, "isBelow", "(JJ)Z"⟩
abbrev cX1_atMost : ByteArray := prog_3_method_19_code
def yX1_atMost : MethodName := ⟨RX1, "atMost", "(JJ)Z"⟩
abbrev cX1_relations : ByteArray := prog_3_method_20_code
def yX1_relations : MethodName := ⟨RX1, "relations", "(JJ)I"⟩
abbrev cX1_lesser : ByteArray := prog_3_method_21_code
def yX1_lesser : MethodName := ⟨RX1, "lesser", "(JJ)J"⟩
abbrev cX1_greater : ByteArray := prog_3_method_22_code
def yX1_greater : MethodName := ⟨RX1, "greater", "(JJ)J"⟩
abbrev cX1_stepped : ByteArray := prog_3_method_23_code
def yX1_stepped : MethodName := ⟨RX1, "stepped", "(JI)J"⟩
abbrev cX1_rounded : ByteArray := prog_3_method_24_code
def yX1_rounded : MethodName := ⟨RX1, "rounded", "(ZJI)J"⟩
abbrev cX1_withoutLast : ByteArray := prog_3_method_25_code
def yX1_withoutLast : MethodName := ⟨RX1, "withoutLast", "(JI)J"⟩
def RX2 : String := "ReckonBench$Reckoning"
def TX2 : u_T := fun k => match k with
  | _ => ("", "", "", false)
def tyX2 : Nat → FieldType := fun k => match k with
  | _ => .int
abbrev wsX20 : List Cond := u_ws RX2 TX2 0
theorem nmX2 : ∀ a, a < 0 → ∀ b, b < 0 → a ≠ b → (TX2 a).2.1 ≠ (TX2 b).2.1 := by decide +kernel
theorem tyX2_ok : ∀ k, k < 0 → parseFieldDescriptor (TX2 k).2.2.1 = some (tyX2 k) := by decide +kernel
abbrev cX2_acted : ByteArray := prog_4_method_2_code
def yX2_acted : MethodName := ⟨RX2, "acted", "(LReckonBench$Kind;IJJ)J"⟩
abbrev cX2_namesSecond : ByteArray := prog_4_method_3_code
def yX2_namesSecond : MethodName := ⟨RX2, "namesSecond", "(I)Z"⟩
abbrev cX2_ofWhole : ByteArray := prog_4_method_4_code
def yX2_ofWhole : MethodName := ⟨RX2, "ofWhole", "(LReckonBench$Kind;J)J"⟩
abbrev cX2_turned : ByteArray := prog_4_method_5_code
def yX2_turned : MethodName := ⟨RX2, "turned", "(LReckonBench$Kind;JLReckonBench$Kind;)J"⟩
abbrev cX2_cutOff : ByteArray := prog_4_method_6_code
def yX2_cutOff : MethodName := ⟨RX2, "cutOff", "(LReckonBench$Kind;J)J"⟩
abbrev cX2_toWhole : ByteArray := prog_4_method_7_code
def yX2_toWhole : MethodName := ⟨RX2, "toWhole", "(LReckonBench$Kind;JI)J"⟩
abbrev cX2_minus : ByteArray := prog_4_method_8_code
def yX2_minus : MethodName := ⟨RX2, "minus", "(LReckonBench$Kind;JJ)J"⟩
abbrev cX2_plus : ByteArray := prog_4_method_9_code
def yX2_plus : MethodName := ⟨RX2, "plus", "(LReckonBench$Kind;JJ)J"⟩
abbrev cX2_plusLesser : ByteArray := prog_4_method_10_code
def yX2_plusLesser : MethodName := ⟨RX2, "plusLesser", "(LReckonBench$Kind;JJ)J"⟩
abbrev cX2_shiftedRight : ByteArray := prog_4_method_11_code
def yX2_shiftedRight : MethodName := ⟨RX2, "shiftedRight", "(JI)J"⟩
abbrev cX2_times : ByteArray := prog_4_method_12_code
def yX2_times : MethodName := ⟨RX2, "times", "(LReckonBench$Kind;JJ)J"⟩
abbrev cX2_productTop : ByteArray := prog_4_method_13_code
def yX2_productTop : MethodName := ⟨RX2, "productTop", "(JJ)J"⟩
abbrev cX2_over : ByteArray := prog_4_method_14_code
def yX2_over : MethodName := ⟨RX2, "over", "(LReckonBench$Kind;JJ)J"⟩
abbrev cX2_quotientOf : ByteArray := prog_4_method_15_code
def yX2_quotientOf : MethodName := ⟨RX2, "quotientOf", "(JJ)J"⟩
abbrev cX2_remainder : ByteArray := prog_4_method_16_code
def yX2_remainder : MethodName := ⟨RX2, "remainder", "(LReckonBench$Kind;JJ)J"⟩
def RX3 : String := "ReckonBench$Row"
def TX3 : u_T := fun k => match k with
  | 0 => ("ReckonBench$Row", "kind", "LReckonBench$Kind;", true)
  | _ => ("ReckonBench$Row", "numbers", "[J", true)
def tyX3 : Nat → FieldType := fun k => match k with
  | 0 => .object "ReckonBench$Kind"
  | _ => .array .long
abbrev wsX30 : List Cond := u_ws RX3 TX3 2
theorem nmX3 : ∀ a, a < 2 → ∀ b, b < 2 → a ≠ b → (TX3 a).2.1 ≠ (TX3 b).2.1 := by decide +kernel
theorem tyX3_ok : ∀ k, k < 2 → parseFieldDescriptor (TX3 k).2.2.1 = some (tyX3 k) := by decide +kernel
abbrev cX3_init : ByteArray := prog_5_method_1_code
def yX3_init : MethodName := ⟨RX3, "<init>", "(LReckonBench$Kind;I)V"⟩
abbrev cX3_has : ByteArray := prog_5_method_2_code
def yX3_has : MethodName := ⟨RX3, "has", "(I)Z"⟩
abbrev cX3_hasPair : ByteArray := prog_5_method_3_code
def yX3_hasPair : MethodName := ⟨RX3, "hasPair", "(I)Z"⟩
abbrev cX3_put : ByteArray := prog_5_method_4_code
def yX3_put : MethodName := ⟨RX3, "put", "(IJ)I"⟩
abbrev cX3_pair : ByteArray := prog_5_method_5_code
def yX3_pair : MethodName := ⟨RX3, "pair", "(I)LReckonBench$Interval;"⟩
abbrev cX3_putPair : ByteArray := prog_5_method_6_code
def yX3_putPair : MethodName := ⟨RX3, "putPair", "(ILReckonBench$Interval;)V"⟩
abbrev cX3_firstExtreme : ByteArray := prog_5_method_7_code
def yX3_firstExtreme : MethodName := ⟨RX3, "firstExtreme", "(Z)I"⟩
abbrev cX3_isBeyond : ByteArray := prog_5_method_8_code
def yX3_isBeyond : MethodName := ⟨RX3, "isBeyond", "(JJZ)Z"⟩
abbrev cX3_isSorted : ByteArray := prog_5_method_9_code
def yX3_isSorted : MethodName := ⟨RX3, "isSorted", "()Z"⟩
abbrev cX3_firstWith : ByteArray := prog_5_method_10_code
def yX3_firstWith : MethodName := ⟨RX3, "firstWith", "(J)I"⟩
def RX4 : String := "ReckonBench$Sorter"
def TX4 : u_T := fun k => match k with
  | 0 => ("ReckonBench$Sorter", "before", "[J", true)
  | _ => ("ReckonBench$Sorter", "merged", "[J", true)
def tyX4 : Nat → FieldType := fun k => match k with
  | 0 => .array .long
  | _ => .array .long
abbrev wsX40 : List Cond := u_ws RX4 TX4 2
theorem nmX4 : ∀ a, a < 2 → ∀ b, b < 2 → a ≠ b → (TX4 a).2.1 ≠ (TX4 b).2.1 := by decide +kernel
theorem tyX4_ok : ∀ k, k < 2 → parseFieldDescriptor (TX4 k).2.2.1 = some (tyX4 k) := by decide +kernel
abbrev cX4_init : ByteArray := prog_6_method_1_code
def yX4_init : MethodName := ⟨RX4, "<init>", "()V"⟩
abbrev cX4_reorder : ByteArray := prog_6_method_2_code
def yX4_reorder : MethodName := ⟨RX4, "reorder", "(LReckonBench$Row;I)I"⟩
abbrev cX4_merge : ByteArray := prog_6_method_3_code
def yX4_merge : MethodName := ⟨RX4, "merge", "(LReckonBench$Row;IIII)V"⟩
abbrev cX4_rank : ByteArray := prog_6_method_4_code
def yX4_rank : MethodName := ⟨RX4, "rank", "(LReckonBench$Kind;IJ)J"⟩
abbrev cX4_changed : ByteArray := prog_6_method_5_code
def yX4_changed : MethodName := ⟨RX4, "changed", "([J)I"⟩
def RX5 : String := "ReckonBench$Sums"
def TX5 : u_T := fun k => match k with
  | _ => ("", "", "", false)
def tyX5 : Nat → FieldType := fun k => match k with
  | _ => .int
abbrev wsX50 : List Cond := u_ws RX5 TX5 0
theorem nmX5 : ∀ a, a < 0 → ∀ b, b < 0 → a ≠ b → (TX5 a).2.1 ≠ (TX5 b).2.1 := by decide +kernel
theorem tyX5_ok : ∀ k, k < 0 → parseFieldDescriptor (TX5 k).2.2.1 = some (tyX5 k) := by decide +kernel
abbrev cX5_plain : ByteArray := prog_7_method_2_code
def yX5_plain : MethodName := ⟨RX5, "plain", "(LReckonBench$Kind;[J)J"⟩
abbrev cX5_carried : ByteArray := prog_7_method_3_code
def yX5_carried : MethodName := ⟨RX5, "carried", "(LReckonBench$Kind;[J)J"⟩
abbrev cX5_halved : ByteArray := prog_7_method_4_code
def yX5_halved : MethodName := ⟨RX5, "halved", "(LReckonBench$Kind;[J)J"⟩
abbrev cX5_ofPart : ByteArray := prog_7_method_5_code
def yX5_ofPart : MethodName := ⟨RX5, "ofPart", "(LReckonBench$Kind;[JIII)J"⟩
def RX6 : String := "ReckonBench"
def TX6 : u_T := fun k => match k with
  | 0 => ("ReckonBench", "rows", "[LReckonBench$Row;", true)
  | 1 => ("ReckonBench", "sorter", "LReckonBench$Sorter;", true)
  | 2 => ("ReckonBench", "rowCount", "I", false)
  | 3 => ("ReckonBench", "numberCount", "I", false)
  | _ => ("ReckonBench", "reason", "I", false)
def tyX6 : Nat → FieldType := fun k => match k with
  | 0 => .array (.object "ReckonBench$Row")
  | 1 => .object "ReckonBench$Sorter"
  | 2 => .int
  | 3 => .int
  | _ => .int
abbrev wsX60 : List Cond := u_ws RX6 TX6 5
theorem nmX6 : ∀ a, a < 5 → ∀ b, b < 5 → a ≠ b → (TX6 a).2.1 ≠ (TX6 b).2.1 := by decide +kernel
theorem tyX6_ok : ∀ k, k < 5 → parseFieldDescriptor (TX6 k).2.2.1 = some (tyX6 k) := by decide +kernel
abbrev cX6_init : ByteArray := prog_1_method_1_code
def yX6_init : MethodName := ⟨RX6, "<init>", "()V"⟩
abbrev cX6_row : ByteArray := prog_1_method_2_code
def yX6_row : MethodName := ⟨RX6, "row", "(IZ)I"⟩
abbrev cX6_set : ByteArray := prog_1_method_3_code
def yX6_set : MethodName := ⟨RX6, "set", "(IIJ)I"⟩
abbrev cX6_whole : ByteArray := prog_1_method_4_code
def yX6_whole : MethodName := ⟨RX6, "whole", "(IIJ)I"⟩
abbrev cX6_get : ByteArray := prog_1_method_5_code
def yX6_get : MethodName := ⟨RX6, "get", "(II)J"⟩
abbrev cX6_cut : ByteArray := prog_1_method_6_code
def yX6_cut : MethodName := ⟨RX6, "cut", "(IIZ)J"⟩
abbrev cX6_compare : ByteArray := prog_1_method_7_code
def yX6_compare : MethodName := ⟨RX6, "compare", "(III)I"⟩
abbrev cX6_between : ByteArray := prog_1_method_8_code
def yX6_between : MethodName := ⟨RX6, "between", "(IIII)I"⟩
abbrev cX6_total : ByteArray := prog_1_method_9_code
def yX6_total : MethodName := ⟨RX6, "total", "(III)I"⟩
abbrev cX6_sort : ByteArray := prog_1_method_10_code
def yX6_sort : MethodName := ⟨RX6, "sort", "(II)I"⟩
abbrev cX6_act : ByteArray := prog_1_method_11_code
def yX6_act : MethodName := ⟨RX6, "act", "(IIIII)I"⟩
abbrev cX6_step : ByteArray := prog_1_method_12_code
def yX6_step : MethodName := ⟨RX6, "step", "(III)I"⟩
abbrev cX6_least : ByteArray := prog_1_method_13_code
def yX6_least : MethodName := ⟨RX6, "least", "(I)I"⟩
abbrev cX6_greatest : ByteArray := prog_1_method_14_code
def yX6_greatest : MethodName := ⟨RX6, "greatest", "(I)I"⟩
abbrev cX6_sum : ByteArray := prog_1_method_15_code
def yX6_sum : MethodName := ⟨RX6, "sum", "(II)J"⟩
abbrev cX6_find : ByteArray := prog_1_method_16_code
def yX6_find : MethodName := ⟨RX6, "find", "(IJ)I"⟩
abbrev cX6_interval : ByteArray := prog_1_method_17_code
def yX6_interval : MethodName := ⟨RX6, "interval", "(IIII)I"⟩
abbrev cX6_move : ByteArray := prog_1_method_18_code
def yX6_move : MethodName := ⟨RX6, "move", "(IIIIZ)I"⟩
abbrev cX6_status : ByteArray := prog_1_method_19_code
def yX6_status : MethodName := ⟨RX6, "status", "()I"⟩
abbrev cX6_rowAt : ByteArray := prog_1_method_20_code
def yX6_rowAt : MethodName := ⟨RX6, "rowAt", "(I)LReckonBench$Row;"⟩
abbrev cX6_refuse : ByteArray := prog_1_method_21_code
def yX6_refuse : MethodName := ⟨RX6, "refuse", "(I)I"⟩
abbrev cX6_refuseLong : ByteArray := prog_1_method_22_code
def yX6_refuseLong : MethodName := ⟨RX6, "refuseLong", "(I)J"⟩
abbrev cX6_answer : ByteArray := prog_1_method_23_code
def yX6_answer : MethodName := ⟨RX6, "answer", "(I)I"⟩
abbrev cX6_answerLong : ByteArray := prog_1_method_24_code
def yX6_answerLong : MethodName := ⟨RX6, "answerLong", "(J)J"⟩
def RX7 : String := "ReckonBenchModel"
def TX7 : u_T := fun k => match k with
  | 0 => ("ReckonBenchModel", "FRACTION", "[I", true)
  | 1 => ("ReckonBenchModel", "LEAST", "[I", true)
  | 2 => ("ReckonBenchModel", "FIELD", "[I", true)
  | 3 => ("ReckonBenchModel", "SIGN", "[J", true)
  | 4 => ("ReckonBenchModel", "INFINITE", "[J", true)
  | 5 => ("ReckonBenchModel", "NONE", "[J", true)
  | 6 => ("ReckonBenchModel", "ONE", "[J", true)
  | 7 => ("ReckonBenchModel", "first", "[I", true)
  | 8 => ("ReckonBenchModel", "kinds", "[I", true)
  | 9 => ("ReckonBenchModel", "bits", "[J", true)
  | 10 => ("ReckonBenchModel", "work", "[J", true)
  | 11 => ("ReckonBenchModel", "other", "[J", true)
  | 12 => ("ReckonBenchModel", "partFrom", "[I", true)
  | 13 => ("ReckonBenchModel", "partSize", "[I", true)
  | 14 => ("ReckonBenchModel", "partDone", "[I", true)
  | 15 => ("ReckonBenchModel", "partSum", "[J", true)
  | 16 => ("ReckonBenchModel", "rows", "I", false)
  | _ => ("ReckonBenchModel", "status", "I", false)
def tyX7 : Nat → FieldType := fun k => match k with
  | 0 => .array .int
  | 1 => .array .int
  | 2 => .array .int
  | 3 => .array .long
  | 4 => .array .long
  | 5 => .array .long
  | 6 => .array .long
  | 7 => .array .int
  | 8 => .array .int
  | 9 => .array .long
  | 10 => .array .long
  | 11 => .array .long
  | 12 => .array .int
  | 13 => .array .int
  | 14 => .array .int
  | 15 => .array .long
  | 16 => .int
  | _ => .int
abbrev wsX70 : List Cond := u_ws RX7 TX7 18
theorem nmX7 : ∀ a, a < 18 → ∀ b, b < 18 → a ≠ b → (TX7 a).2.1 ≠ (TX7 b).2.1 := by decide +kernel
theorem tyX7_ok : ∀ k, k < 18 → parseFieldDescriptor (TX7 k).2.2.1 = some (tyX7 k) := by decide +kernel
abbrev cX7_init : ByteArray := prog_9_method_1_code
def yX7_init : MethodName := ⟨RX7, "<init>", "()V"⟩
abbrev cX7_no : ByteArray := prog_9_method_2_code
def yX7_no : MethodName := ⟨RX7, "no", "(I)I"⟩
abbrev cX7_size : ByteArray := prog_9_method_3_code
def yX7_size : MethodName := ⟨RX7, "size", "(I)I"⟩
abbrev cX7_bad : ByteArray := prog_9_method_4_code
def yX7_bad : MethodName := ⟨RX7, "bad", "(II)I"⟩
abbrev cX7_outside : ByteArray := prog_9_method_5_code
def yX7_outside : MethodName := ⟨RX7, "outside", "(II)Z"⟩
abbrev cX7_at : ByteArray := prog_9_method_6_code
def yX7_at : MethodName := ⟨RX7, "at", "(II)J"⟩
abbrev cX7_keep : ByteArray := prog_9_method_7_code
def yX7_keep : MethodName := ⟨RX7, "keep", "(IIJ)I"⟩
abbrev cX7_unsigned : ByteArray := prog_9_method_8_code
def yX7_unsigned : MethodName := ⟨RX7, "unsigned", "(IJ)J"⟩
abbrev cX7_minus : ByteArray := prog_9_method_9_code
def yX7_minus : MethodName := ⟨RX7, "minus", "(IJ)Z"⟩
abbrev cX7_clean : ByteArray := prog_9_method_10_code
def yX7_clean : MethodName := ⟨RX7, "clean", "(IJ)J"⟩
abbrev cX7_none : ByteArray := prog_9_method_11_code
def yX7_none : MethodName := ⟨RX7, "none", "(IJ)Z"⟩
abbrev cX7_infinite : ByteArray := prog_9_method_12_code
def yX7_infinite : MethodName := ⟨RX7, "infinite", "(IJ)Z"⟩
abbrev cX7_zero : ByteArray := prog_9_method_13_code
def yX7_zero : MethodName := ⟨RX7, "zero", "(IJ)Z"⟩
abbrev cX7_sortOf : ByteArray := prog_9_method_14_code
def yX7_sortOf : MethodName := ⟨RX7, "sortOf", "(IJ)I"⟩
abbrev cX7_rank : ByteArray := prog_9_method_15_code
def yX7_rank : MethodName := ⟨RX7, "rank", "(IJ)J"⟩
abbrev cX7_signed : ByteArray := prog_9_method_16_code
def yX7_signed : MethodName := ⟨RX7, "signed", "(IJZ)J"⟩
abbrev cX7_turned : ByteArray := prog_9_method_17_code
def yX7_turned : MethodName := ⟨RX7, "turned", "(IJ)J"⟩
abbrev cX7_power : ByteArray := prog_9_method_18_code
def yX7_power : MethodName := ⟨RX7, "power", "(IJ)I"⟩
abbrev cX7_mantissa : ByteArray := prog_9_method_19_code
def yX7_mantissa : MethodName := ⟨RX7, "mantissa", "(IJ)J"⟩
abbrev cX7_round : ByteArray := prog_9_method_20_code
def yX7_round : MethodName := ⟨RX7, "round", "(IZJIZ)J"⟩
abbrev cX7_plus : ByteArray := prog_9_method_21_code
def yX7_plus : MethodName := ⟨RX7, "plus", "(IJJ)J"⟩
abbrev cX7_larger : ByteArray := prog_9_method_22_code
def yX7_larger : MethodName := ⟨RX7, "larger", "(IJJ)J"⟩
abbrev cX7_times : ByteArray := prog_9_method_23_code
def yX7_times : MethodName := ⟨RX7, "times", "(IJJ)J"⟩
abbrev cX7_over : ByteArray := prog_9_method_24_code
def yX7_over : MethodName := ⟨RX7, "over", "(IJJ)J"⟩
abbrev cX7_left : ByteArray := prog_9_method_25_code
def yX7_left : MethodName := ⟨RX7, "left", "(IJJ)J"⟩
abbrev cX7_wholeOf : ByteArray := prog_9_method_26_code
def yX7_wholeOf : MethodName := ⟨RX7, "wholeOf", "(IJI)J"⟩
abbrev cX7_lesser : ByteArray := prog_9_method_27_code
def yX7_lesser : MethodName := ⟨RX7, "lesser", "(IJJ)J"⟩
abbrev cX7_greater : ByteArray := prog_9_method_28_code
def yX7_greater : MethodName := ⟨RX7, "greater", "(IJJ)J"⟩
abbrev cX7_order : ByteArray := prog_9_method_29_code
def yX7_order : MethodName := ⟨RX7, "order", "(IJJ)I"⟩
abbrev cX7_ofRank : ByteArray := prog_9_method_30_code
def yX7_ofRank : MethodName := ⟨RX7, "ofRank", "(IJZ)J"⟩
abbrev cX7_downward : ByteArray := prog_9_method_31_code
def yX7_downward : MethodName := ⟨RX7, "downward", "(IJ)J"⟩
abbrev cX7_upward : ByteArray := prog_9_method_32_code
def yX7_upward : MethodName := ⟨RX7, "upward", "(IJ)J"⟩
abbrev cX7_row : ByteArray := prog_9_method_33_code
def yX7_row : MethodName := ⟨RX7, "row", "(IZ)I"⟩
abbrev cX7_set : ByteArray := prog_9_method_34_code
def yX7_set : MethodName := ⟨RX7, "set", "(IIJ)I"⟩
abbrev cX7_whole : ByteArray := prog_9_method_35_code
def yX7_whole : MethodName := ⟨RX7, "whole", "(IIJ)I"⟩
abbrev cX7_get : ByteArray := prog_9_method_36_code
def yX7_get : MethodName := ⟨RX7, "get", "(II)J"⟩
abbrev cX7_cut : ByteArray := prog_9_method_37_code
def yX7_cut : MethodName := ⟨RX7, "cut", "(IIZ)J"⟩
abbrev cX7_compare : ByteArray := prog_9_method_38_code
def yX7_compare : MethodName := ⟨RX7, "compare", "(III)I"⟩
abbrev cX7_between : ByteArray := prog_9_method_39_code
def yX7_between : MethodName := ⟨RX7, "between", "(IIII)I"⟩
abbrev cX7_total : ByteArray := prog_9_method_40_code
def yX7_total : MethodName := ⟨RX7, "total", "(III)I"⟩
abbrev cX7_behind : ByteArray := prog_9_method_41_code
def yX7_behind : MethodName := ⟨RX7, "behind", "(IIJJ)Z"⟩
abbrev cX7_sort : ByteArray := prog_9_method_42_code
def yX7_sort : MethodName := ⟨RX7, "sort", "(II)I"⟩
abbrev cX7_merge : ByteArray := prog_9_method_43_code
def yX7_merge : MethodName := ⟨RX7, "merge", "(IIIII)V"⟩
abbrev cX7_act : ByteArray := prog_9_method_44_code
def yX7_act : MethodName := ⟨RX7, "act", "(IIIII)I"⟩
abbrev cX7_result : ByteArray := prog_9_method_45_code
def yX7_result : MethodName := ⟨RX7, "result", "(IIJJ)J"⟩
abbrev cX7_step : ByteArray := prog_9_method_46_code
def yX7_step : MethodName := ⟨RX7, "step", "(III)I"⟩
abbrev cX7_farthest : ByteArray := prog_9_method_47_code
def yX7_farthest : MethodName := ⟨RX7, "farthest", "(IZ)I"⟩
abbrev cX7_least : ByteArray := prog_9_method_48_code
def yX7_least : MethodName := ⟨RX7, "least", "(I)I"⟩
abbrev cX7_greatest : ByteArray := prog_9_method_49_code
def yX7_greatest : MethodName := ⟨RX7, "greatest", "(I)I"⟩
abbrev cX7_sum : ByteArray := prog_9_method_50_code
def yX7_sum : MethodName := ⟨RX7, "sum", "(II)J"⟩
abbrev cX7_halves : ByteArray := prog_9_method_51_code
def yX7_halves : MethodName := ⟨RX7, "halves", "(I)J"⟩
abbrev cX7_find : ByteArray := prog_9_method_52_code
def yX7_find : MethodName := ⟨RX7, "find", "(IJ)I"⟩
abbrev cX7_isInterval : ByteArray := prog_9_method_53_code
def yX7_isInterval : MethodName := ⟨RX7, "isInterval", "(II)Z"⟩
abbrev cX7_bounds : ByteArray := prog_9_method_54_code
def yX7_bounds : MethodName := ⟨RX7, "bounds", "(IIJJ)V"⟩
abbrev cX7_noPair : ByteArray := prog_9_method_55_code
def yX7_noPair : MethodName := ⟨RX7, "noPair", "(II)Z"⟩
abbrev cX7_interval : ByteArray := prog_9_method_56_code
def yX7_interval : MethodName := ⟨RX7, "interval", "(IIII)I"⟩
abbrev cX7_meet : ByteArray := prog_9_method_57_code
def yX7_meet : MethodName := ⟨RX7, "meet", "(IIJJ)I"⟩
abbrev cX7_member : ByteArray := prog_9_method_58_code
def yX7_member : MethodName := ⟨RX7, "member", "(IIJJ)J"⟩
abbrev cX7_move : ByteArray := prog_9_method_59_code
def yX7_move : MethodName := ⟨RX7, "move", "(IIIIZ)I"⟩
abbrev cX7_turnedTo : ByteArray := prog_9_method_60_code
def yX7_turnedTo : MethodName := ⟨RX7, "turnedTo", "(IIJ)J"⟩
abbrev cX7_status : ByteArray := prog_9_method_61_code
def yX7_status : MethodName := ⟨RX7, "status", "()I"⟩
def RJx29ce0 : String := "java/lang/Enum"
def TJx29ce0 : u_T := fun k => match k with
  | _ => ("", "", "", false)
def tyJx29ce0 : Nat → FieldType := fun k => match k with
  | _ => .int
abbrev wsJx29ce00 : List Cond := u_ws RJx29ce0 TJx29ce0 0
theorem nmJx29ce0 : ∀ a, a < 0 → ∀ b, b < 0 → a ≠ b → (TJx29ce0 a).2.1 ≠ (TJx29ce0 b).2.1 := by decide +kernel
theorem tyJx29ce0_ok : ∀ k, k < 0 → parseFieldDescriptor (TJx29ce0 k).2.2.1 = some (tyJx29ce0 k) := by decide +kernel
def RJ6 : String := "java/lang/Integer"
def TJ6 : u_T := fun k => match k with
  | _ => ("", "", "", false)
def tyJ6 : Nat → FieldType := fun k => match k with
  | _ => .int
abbrev wsJ60 : List Cond := u_ws RJ6 TJ6 0
theorem nmJ6 : ∀ a, a < 0 → ∀ b, b < 0 → a ≠ b → (TJ6 a).2.1 ≠ (TJ6 b).2.1 := by decide +kernel
theorem tyJ6_ok : ∀ k, k < 0 → parseFieldDescriptor (TJ6 k).2.2.1 = some (tyJ6 k) := by decide +kernel
abbrev cJ6_numberOfLeadingZeros_0f7a4 : ByteArray := prog_11_method_47_code
def yJ6_numberOfLeadingZeros_0f7a4 : MethodName := ⟨RJ6, "numberOfLeadingZeros", "(I)I"⟩
def RJ13 : String := "java/lang/Long"
def TJ13 : u_T := fun k => match k with
  | _ => ("", "", "", false)
def tyJ13 : Nat → FieldType := fun k => match k with
  | _ => .int
abbrev wsJ130 : List Cond := u_ws RJ13 TJ13 0
theorem nmJ13 : ∀ a, a < 0 → ∀ b, b < 0 → a ≠ b → (TJ13 a).2.1 ≠ (TJ13 b).2.1 := by decide +kernel
theorem tyJ13_ok : ∀ k, k < 0 → parseFieldDescriptor (TJ13 k).2.2.1 = some (tyJ13 k) := by decide +kernel
abbrev cJ13_numberOfLeadingZeros_95d88 : ByteArray := prog_12_method_48_code
def yJ13_numberOfLeadingZeros_95d88 : MethodName := ⟨RJ13, "numberOfLeadingZeros", "(J)I"⟩
def RJ9 : String := "java/lang/Math"
def TJ9 : u_T := fun k => match k with
  | _ => ("", "", "", false)
def tyJ9 : Nat → FieldType := fun k => match k with
  | _ => .int
abbrev wsJ90 : List Cond := u_ws RJ9 TJ9 0
theorem nmJ9 : ∀ a, a < 0 → ∀ b, b < 0 → a ≠ b → (TJ9 a).2.1 ≠ (TJ9 b).2.1 := by decide +kernel
theorem tyJ9_ok : ∀ k, k < 0 → parseFieldDescriptor (TJ9 k).2.2.1 = some (tyJ9 k) := by decide +kernel
abbrev cJ9_abs_067f4 : ByteArray := prog_13_method_61_code
def yJ9_abs_067f4 : MethodName := ⟨RJ9, "abs", "(J)J"⟩
abbrev cJ9_max_7cf53 : ByteArray := prog_13_method_65_code
def yJ9_max_7cf53 : MethodName := ⟨RJ9, "max", "(II)I"⟩
abbrev cJ9_max_f86c9 : ByteArray := prog_13_method_66_code
def yJ9_max_f86c9 : MethodName := ⟨RJ9, "max", "(JJ)J"⟩
abbrev cJ9_min_7cf53 : ByteArray := prog_13_method_69_code
def yJ9_min_7cf53 : MethodName := ⟨RJ9, "min", "(II)I"⟩
abbrev cJ9_min_f86c9 : ByteArray := prog_13_method_70_code
def yJ9_min_f86c9 : MethodName := ⟨RJ9, "min", "(JJ)J"⟩
def RJ10 : String := "java/lang/System"
def TJ10 : u_T := fun k => match k with
  | _ => ("", "", "", false)
def tyJ10 : Nat → FieldType := fun k => match k with
  | _ => .int
abbrev wsJ100 : List Cond := u_ws RJ10 TJ10 0
theorem nmJ10 : ∀ a, a < 0 → ∀ b, b < 0 → a ≠ b → (TJ10 a).2.1 ≠ (TJ10 b).2.1 := by decide +kernel
theorem tyJ10_ok : ∀ k, k < 0 → parseFieldDescriptor (TJ10 k).2.2.1 = some (tyJ10 k) := by decide +kernel
def RL : String := "ReckonBenchLaw"
abbrev cL_law : ByteArray := code
def yL_law : MethodName := ⟨RL, "law", "([I)Z"⟩
def wsL_law_r1 : List Cond := [Cond.classLink RL 7 RX6, Cond.instantiable RX6 5, Cond.initialized RX6, Cond.classLink RL 10 RX7, Cond.instantiable RX7 18, Cond.initialized RX7, Cond.constantLong RL 18 (4294967295), Cond.methodLink RL 9 yX6_init, Cond.instanceMethod yX6_init, Cond.code yX6_init cX6_init 1 none, Cond.methodLink RX6 3 objectInit, Cond.instanceMethod objectInit, Cond.code objectInit ⟨#[0xb1]⟩ 1 none, Cond.classLink RX6 9 RX3, Cond.fieldLink RX6 11 "ReckonBench" "rows" "[LReckonBench$Row;", Cond.classLink RX6 15 RX4, Cond.instantiable RX4 2, Cond.initialized RX4, Cond.fieldLink RX6 18 "ReckonBench" "sorter" "LReckonBench$Sorter;", Cond.fieldLink RX6 22 "ReckonBench" "rowCount" "I", Cond.fieldLink RX6 26 "ReckonBench" "numberCount" "I", Cond.fieldLink RX6 29 "ReckonBench" "reason" "I", Cond.methodLink RX6 17 yX4_init, Cond.instanceMethod yX4_init]
def wsL_law_r2 : List Cond := [Cond.code yX4_init cX4_init 1 none, Cond.methodLink RX4 3 objectInit, Cond.arrayClass .long, Cond.fieldLink RX4 9 "ReckonBench$Sorter" "before" "[J", Cond.fieldLink RX4 15 "ReckonBench$Sorter" "merged" "[J", Cond.methodLink RL 12 yX7_init, Cond.instanceMethod yX7_init, Cond.code yX7_init cX7_init 1 none, Cond.methodLink RX7 1 objectInit, Cond.arrayClass .int, Cond.fieldLink RX7 7 "ReckonBenchModel" "FRACTION" "[I", Cond.fieldLink RX7 13 "ReckonBenchModel" "LEAST" "[I", Cond.fieldLink RX7 16 "ReckonBenchModel" "FIELD" "[I", Cond.constantLong RX7 19 (-9223372036854775808), Cond.constantLong RX7 21 (2147483648), Cond.fieldLink RX7 23 "ReckonBenchModel" "SIGN" "[J", Cond.constantLong RX7 27 (9218868437227405312), Cond.constantLong RX7 29 (2139095040), Cond.fieldLink RX7 31 "ReckonBenchModel" "INFINITE" "[J", Cond.constantLong RX7 34 (9221120237041090560), Cond.constantLong RX7 36 (2143289344), Cond.fieldLink RX7 38 "ReckonBenchModel" "NONE" "[J", Cond.constantLong RX7 41 (4607182418800017408), Cond.constantLong RX7 43 (1065353216)]
def wsL_law_r3 : List Cond := [Cond.fieldLink RX7 45 "ReckonBenchModel" "ONE" "[J", Cond.fieldLink RX7 48 "ReckonBenchModel" "first" "[I", Cond.fieldLink RX7 51 "ReckonBenchModel" "kinds" "[I", Cond.fieldLink RX7 54 "ReckonBenchModel" "bits" "[J", Cond.fieldLink RX7 57 "ReckonBenchModel" "work" "[J", Cond.fieldLink RX7 60 "ReckonBenchModel" "other" "[J", Cond.fieldLink RX7 63 "ReckonBenchModel" "partFrom" "[I", Cond.fieldLink RX7 66 "ReckonBenchModel" "partSize" "[I", Cond.fieldLink RX7 69 "ReckonBenchModel" "partDone" "[I", Cond.fieldLink RX7 72 "ReckonBenchModel" "partSum" "[J", Cond.methodLink RL 13 yX6_row, Cond.instanceMethod yX6_row, Cond.selects RX6 yX6_row yX6_row, Cond.code yX6_row cX6_row 4 (some .int), Cond.instantiable RX3 2, Cond.initialized RX3, Cond.fieldLink RX6 36 "ReckonBench$Kind" "SINGLE" "LReckonBench$Kind;", Cond.fieldLink RX6 42 "ReckonBench$Kind" "DOUBLE" "LReckonBench$Kind;", Cond.methodLink RX6 32 yX6_refuse, Cond.instanceMethod yX6_refuse, Cond.selects RX6 yX6_refuse yX6_refuse, Cond.code yX6_refuse cX6_refuse 2 (some .int), Cond.methodLink RX6 45 yX3_init, Cond.instanceMethod yX3_init]
def wsL_law_r4 : List Cond := [Cond.code yX3_init cX3_init 3 none, Cond.methodLink RX3 3 objectInit, Cond.fieldLink RX3 9 "ReckonBench$Row" "kind" "LReckonBench$Kind;", Cond.fieldLink RX3 15 "ReckonBench$Row" "numbers" "[J", Cond.methodLink RX6 48 yX6_answer, Cond.instanceMethod yX6_answer, Cond.selects RX6 yX6_answer yX6_answer, Cond.code yX6_answer cX6_answer 2 (some .int), Cond.methodLink RL 17 yX7_row, Cond.instanceMethod yX7_row, Cond.selects RX7 yX7_row yX7_row, Cond.code yX7_row cX7_row 3 (some .int), Cond.fieldLink RX7 79 "ReckonBenchModel" "rows" "I", Cond.fieldLink RX7 75 "ReckonBenchModel" "status" "I", Cond.methodLink RX7 139 yX7_no, Cond.instanceMethod yX7_no, Cond.selects RX7 yX7_no yX7_no, Cond.code yX7_no cX7_no 2 (some .int), Cond.methodLink RL 20 yX6_set, Cond.instanceMethod yX6_set, Cond.selects RX6 yX6_set yX6_set, Cond.code yX6_set cX6_set 6 (some .int), Cond.fieldLink RX6 59 "ReckonBench$Row" "kind" "LReckonBench$Kind;", Cond.methodLink RX6 51 yX6_rowAt]
def wsL_law_r5 : List Cond := [Cond.instanceMethod yX6_rowAt, Cond.selects RX6 yX6_rowAt yX6_rowAt, Cond.code yX6_rowAt cX6_rowAt 2 (some (.object "ReckonBench$Row")), Cond.methodLink RX6 55 yX3_has, Cond.instanceMethod yX3_has, Cond.selects RX3 yX3_has yX3_has, Cond.code yX3_has cX3_has 2 (some .boolean), Cond.methodLink RX6 62 yX1_cleaned, Cond.instanceMethod yX1_cleaned, Cond.selects RX1 yX1_cleaned yX1_cleaned, Cond.initialized RX1, Cond.code yX1_cleaned cX1_cleaned 5 (some .long), Cond.fieldLink RX1 39 "ReckonBench$Kind" "sign" "J", Cond.fieldLink RX1 46 "ReckonBench$Kind" "nan" "J", Cond.methodLink RX1 49 yX1_isNan, Cond.instanceMethod yX1_isNan, Cond.selects RX1 yX1_isNan yX1_isNan, Cond.code yX1_isNan cX1_isNan 3 (some .boolean), Cond.fieldLink RX1 43 "ReckonBench$Kind" "infinite" "J", Cond.methodLink RX1 53 yX1_magnitude, Cond.instanceMethod yX1_magnitude, Cond.selects RX1 yX1_magnitude yX1_magnitude, Cond.code yX1_magnitude cX1_magnitude 3 (some .long), Cond.methodLink RX6 66 yX3_put]
def wsL_law_r6 : List Cond := [Cond.instanceMethod yX3_put, Cond.selects RX3 yX3_put yX3_put, Cond.code yX3_put cX3_put 4 (some .int), Cond.methodLink RX3 19 yX1_sortOf, Cond.instanceMethod yX1_sortOf, Cond.selects RX1 yX1_sortOf yX1_sortOf, Cond.code yX1_sortOf cX1_sortOf 6 (some .int), Cond.methodLink RX1 57 yX1_isNegative, Cond.instanceMethod yX1_isNegative, Cond.selects RX1 yX1_isNegative yX1_isNegative, Cond.code yX1_isNegative cX1_isNegative 3 (some .boolean), Cond.methodLink RL 24 yX7_set, Cond.instanceMethod yX7_set, Cond.selects RX7 yX7_set yX7_set, Cond.code yX7_set cX7_set 6 (some .int), Cond.methodLink RX7 142 yX7_bad, Cond.instanceMethod yX7_bad, Cond.selects RX7 yX7_bad yX7_bad, Cond.code yX7_bad cX7_bad 3 (some .int), Cond.methodLink RX7 82 yX7_size, Cond.instanceMethod yX7_size, Cond.selects RX7 yX7_size yX7_size, Cond.code yX7_size cX7_size 2 (some .int), Cond.methodLink RX7 146 yX7_clean]
def wsL_law_r7 : List Cond := [Cond.instanceMethod yX7_clean, Cond.selects RX7 yX7_clean yX7_clean, Cond.code yX7_clean cX7_clean 6 (some .long), Cond.constantLong RX7 92 (4294967295), Cond.methodLink RX7 94 yX7_unsigned, Cond.instanceMethod yX7_unsigned, Cond.selects RX7 yX7_unsigned yX7_unsigned, Cond.code yX7_unsigned cX7_unsigned 4 (some .long), Cond.constantLong RX7 90 (-1), Cond.methodLink RX7 149 yX7_keep, Cond.instanceMethod yX7_keep, Cond.selects RX7 yX7_keep yX7_keep, Cond.code yX7_keep cX7_keep 5 (some .int), Cond.methodLink RX7 86 yX7_sortOf, Cond.instanceMethod yX7_sortOf, Cond.selects RX7 yX7_sortOf yX7_sortOf, Cond.code yX7_sortOf cX7_sortOf 4 (some .int), Cond.methodLink RX7 98 yX7_none, Cond.instanceMethod yX7_none, Cond.selects RX7 yX7_none yX7_none, Cond.code yX7_none cX7_none 4 (some .boolean), Cond.methodLink RX7 102 yX7_zero, Cond.instanceMethod yX7_zero, Cond.selects RX7 yX7_zero yX7_zero]
def wsL_law_r8 : List Cond := [Cond.code yX7_zero cX7_zero 4 (some .boolean), Cond.methodLink RX7 105 yX7_infinite, Cond.instanceMethod yX7_infinite, Cond.selects RX7 yX7_infinite yX7_infinite, Cond.code yX7_infinite cX7_infinite 4 (some .boolean), Cond.methodLink RX7 108 yX7_minus, Cond.instanceMethod yX7_minus, Cond.selects RX7 yX7_minus yX7_minus, Cond.code yX7_minus cX7_minus 4 (some .boolean), Cond.methodLink RL 25 yX6_whole, Cond.instanceMethod yX6_whole, Cond.selects RX6 yX6_whole yX6_whole, Cond.code yX6_whole cX6_whole 6 (some .int), Cond.methodLink RX6 70 yX2_ofWhole, Cond.static yX2_ofWhole, Cond.initialized RX2, Cond.code yX2_ofWhole cX2_ofWhole 3 (some .long), Cond.methodLink RX2 70 yX1_rounded, Cond.instanceMethod yX1_rounded, Cond.selects RX1 yX1_rounded yX1_rounded, Cond.code yX1_rounded cX1_rounded 10 (some .long), Cond.fieldLink RX1 29 "ReckonBench$Kind" "fractionBits" "I", Cond.fieldLink RX1 36 "ReckonBench$Kind" "lowest" "I", Cond.methodLink RX1 64 Lib.Math.max.name]
def wsL_law_r9 : List Cond := [Cond.static Lib.Math.max.name, Cond.initialized "java/lang/Math", Cond.code Lib.Math.max.name Lib.Math.max.code 2 (some .int), Cond.fieldLink RX1 33 "ReckonBench$Kind" "topField" "I", Cond.methodLink RX1 91 yX1_signed, Cond.instanceMethod yX1_signed, Cond.selects RX1 yX1_signed yX1_signed, Cond.code yX1_signed cX1_signed 4 (some .long), Cond.methodLink RX1 98 yJ13_numberOfLeadingZeros_95d88, Cond.static yJ13_numberOfLeadingZeros_95d88, Cond.initialized RJ13, Cond.code yJ13_numberOfLeadingZeros_95d88 cJ13_numberOfLeadingZeros_95d88 3 (some .int), Cond.methodLink RJ13 308 yJ6_numberOfLeadingZeros_0f7a4, Cond.static yJ6_numberOfLeadingZeros_0f7a4, Cond.initialized RJ6, Cond.code yJ6_numberOfLeadingZeros_0f7a4 cJ6_numberOfLeadingZeros_0f7a4 2 (some .int), Cond.constant RJ6 264 (65536), Cond.methodLink RX1 103 yX1_withoutLast, Cond.static yX1_withoutLast, Cond.code yX1_withoutLast cX1_withoutLast 10 (some .long), Cond.methodLink RL 28 yX7_whole, Cond.instanceMethod yX7_whole, Cond.selects RX7 yX7_whole yX7_whole, Cond.code yX7_whole cX7_whole 7 (some .int)]
def wsL_law_r10 : List Cond := [Cond.constantLong RX7 153 (4611686018427387904), Cond.methodLink RX7 125 yX7_round, Cond.instanceMethod yX7_round, Cond.selects RX7 yX7_round yX7_round, Cond.code yX7_round cX7_round 16 (some .long), Cond.methodLink RX7 111 yX7_signed, Cond.instanceMethod yX7_signed, Cond.selects RX7 yX7_signed yX7_signed, Cond.code yX7_signed cX7_signed 5 (some .long), Cond.methodLink RL 29 yX6_get, Cond.instanceMethod yX6_get, Cond.selects RX6 yX6_get yX6_get, Cond.code yX6_get cX6_get 4 (some .long), Cond.fieldLink RX6 80 "ReckonBench$Row" "numbers" "[J", Cond.methodLink RX6 76 yX6_refuseLong, Cond.instanceMethod yX6_refuseLong, Cond.selects RX6 yX6_refuseLong yX6_refuseLong, Cond.code yX6_refuseLong cX6_refuseLong 2 (some .long), Cond.methodLink RX6 84 yX6_answerLong, Cond.instanceMethod yX6_answerLong, Cond.selects RX6 yX6_answerLong yX6_answerLong, Cond.code yX6_answerLong cX6_answerLong 3 (some .long), Cond.methodLink RL 33 yX7_get, Cond.instanceMethod yX7_get]
def wsL_law_r11 : List Cond := [Cond.selects RX7 yX7_get yX7_get, Cond.code yX7_get cX7_get 3 (some .long), Cond.methodLink RX7 155 yX7_at, Cond.instanceMethod yX7_at, Cond.selects RX7 yX7_at yX7_at, Cond.code yX7_at cX7_at 3 (some .long), Cond.methodLink RL 34 yX6_cut, Cond.instanceMethod yX6_cut, Cond.selects RX6 yX6_cut yX6_cut, Cond.code yX6_cut cX6_cut 7 (some .long), Cond.constantLong RX6 90 (-2147483648), Cond.constantLong RX6 92 (2147483647), Cond.methodLink RX6 94 Lib.MathLoose.min_long.x, Cond.static Lib.MathLoose.min_long.x, Cond.code Lib.MathLoose.min_long.x Lib.MathLoose.min_long.code 4 (some .long), Cond.methodLink RX6 100 Lib.MathLoose.max_long.x, Cond.static Lib.MathLoose.max_long.x, Cond.code Lib.MathLoose.max_long.x Lib.MathLoose.max_long.code 4 (some .long), Cond.methodLink RX6 87 yX2_cutOff, Cond.static yX2_cutOff, Cond.code yX2_cutOff cX2_cutOff 9 (some .long), Cond.methodLink RX2 87 Lib.Math.min.name, Cond.static Lib.Math.min.name, Cond.code Lib.Math.min.name Lib.Math.min.code 2 (some .int)]
def wsL_law_r12 : List Cond := [Cond.constantLong RX2 98 (-9223372036854775808), Cond.constantLong RX2 100 (9223372036854775807), Cond.methodLink RX2 11 yX1_isNan, Cond.methodLink RX2 40 yX1_isNegative, Cond.methodLink RX2 80 yX1_significand, Cond.instanceMethod yX1_significand, Cond.selects RX1 yX1_significand yX1_significand, Cond.code yX1_significand cX1_significand 7 (some .long), Cond.methodLink RX1 60 yX1_exponentField, Cond.instanceMethod yX1_exponentField, Cond.selects RX1 yX1_exponentField yX1_exponentField, Cond.code yX1_exponentField cX1_exponentField 3 (some .int), Cond.methodLink RX2 83 yX1_exponent, Cond.instanceMethod yX1_exponent, Cond.selects RX1 yX1_exponent yX1_exponent, Cond.code yX1_exponent cX1_exponent 3 (some .int), Cond.methodLink RX2 93 yJ13_numberOfLeadingZeros_95d88, Cond.methodLink RL 38 yX7_cut, Cond.instanceMethod yX7_cut, Cond.selects RX7 yX7_cut yX7_cut, Cond.code yX7_cut cX7_cut 13 (some .long), Cond.constantLong RX7 159 (2147483647), Cond.constantLong RX7 161 (9223372036854775807), Cond.methodLink RX7 122 yX7_power]
def wsL_law_r13 : List Cond := [Cond.instanceMethod yX7_power, Cond.selects RX7 yX7_power yX7_power, Cond.code yX7_power cX7_power 10 (some .int), Cond.methodLink RX7 119 yX7_mantissa, Cond.instanceMethod yX7_mantissa, Cond.selects RX7 yX7_mantissa yX7_mantissa, Cond.code yX7_mantissa cX7_mantissa 10 (some .long), Cond.methodLink RL 39 yX6_compare, Cond.instanceMethod yX6_compare, Cond.selects RX6 yX6_compare yX6_compare, Cond.code yX6_compare cX6_compare 5 (some .int), Cond.methodLink RX6 103 yX1_relations, Cond.instanceMethod yX1_relations, Cond.selects RX1 yX1_relations yX1_relations, Cond.code yX1_relations cX1_relations 5 (some .int), Cond.methodLink RX1 75 yX1_isBelow, Cond.instanceMethod yX1_isBelow, Cond.selects RX1 yX1_isBelow yX1_isBelow, Cond.code yX1_isBelow cX1_isBelow 5 (some .boolean), Cond.methodLink RX1 72 yX1_valueRank, Cond.instanceMethod yX1_valueRank, Cond.selects RX1 yX1_valueRank yX1_valueRank, Cond.code yX1_valueRank cX1_valueRank 3 (some .long), Cond.methodLink RX1 79 yX1_atMost]
def wsL_law_r14 : List Cond := [Cond.instanceMethod yX1_atMost, Cond.selects RX1 yX1_atMost yX1_atMost, Cond.code yX1_atMost cX1_atMost 5 (some .boolean), Cond.methodLink RL 43 yX7_compare, Cond.instanceMethod yX7_compare, Cond.selects RX7 yX7_compare yX7_compare, Cond.code yX7_compare cX7_compare 10 (some .int), Cond.methodLink RX7 163 yX7_outside, Cond.instanceMethod yX7_outside, Cond.selects RX7 yX7_outside yX7_outside, Cond.code yX7_outside cX7_outside 3 (some .boolean), Cond.methodLink RX7 133 yX7_rank, Cond.instanceMethod yX7_rank, Cond.selects RX7 yX7_rank yX7_rank, Cond.code yX7_rank cX7_rank 4 (some .long), Cond.methodLink RL 44 yX6_between, Cond.instanceMethod yX6_between, Cond.selects RX6 yX6_between yX6_between, Cond.code yX6_between cX6_between 15 (some .int), Cond.methodLink RX6 107 yX1_atMost, Cond.methodLink RX6 111 yX1_isBelow, Cond.methodLink RL 48 yX7_between, Cond.instanceMethod yX7_between, Cond.selects RX7 yX7_between yX7_between]
def wsL_law_r15 : List Cond := [Cond.code yX7_between cX7_between 8 (some .int), Cond.methodLink RX7 167 yX7_compare, Cond.methodLink RL 49 yX6_total, Cond.instanceMethod yX6_total, Cond.selects RX6 yX6_total yX6_total, Cond.code yX6_total cX6_total 9 (some .int), Cond.methodLink RX6 114 yX1_totalRank, Cond.instanceMethod yX1_totalRank, Cond.selects RX1 yX1_totalRank yX1_totalRank, Cond.code yX1_totalRank cX1_totalRank 3 (some .long), Cond.constantLong RX1 70 (-1), Cond.methodLink RL 52 yX7_total, Cond.instanceMethod yX7_total, Cond.selects RX7 yX7_total yX7_total, Cond.code yX7_total cX7_total 5 (some .int), Cond.methodLink RX7 171 yX7_order, Cond.instanceMethod yX7_order, Cond.selects RX7 yX7_order yX7_order, Cond.code yX7_order cX7_order 6 (some .int), Cond.methodLink RL 53 yX6_sort, Cond.instanceMethod yX6_sort, Cond.selects RX6 yX6_sort yX6_sort, Cond.code yX6_sort cX6_sort 4 (some .int), Cond.methodLink RX6 117 yX4_reorder]
def wsL_law_r16 : List Cond := [Cond.instanceMethod yX4_reorder, Cond.selects RX4 yX4_reorder yX4_reorder, Cond.code yX4_reorder cX4_reorder 9 (some .int), Cond.fieldLink RX4 18 "ReckonBench$Row" "numbers" "[J", Cond.methodLink RX4 23 arraycopyName, Cond.native arraycopyName, Cond.static arraycopyName, Cond.initialized "java/lang/System", Cond.methodLink RX4 29 Lib.Math.min.name, Cond.methodLink RX4 35 yX4_merge, Cond.instanceMethod yX4_merge, Cond.selects RX4 yX4_merge yX4_merge, Cond.code yX4_merge cX4_merge 11 none, Cond.fieldLink RX4 43 "ReckonBench$Row" "kind" "LReckonBench$Kind;", Cond.methodLink RX4 47 yX4_rank, Cond.static yX4_rank, Cond.code yX4_rank cX4_rank 4 (some .long), Cond.methodLink RX4 51 yX1_totalRank, Cond.methodLink RX4 57 yX1_magnitude, Cond.methodLink RX4 39 yX4_changed, Cond.instanceMethod yX4_changed, Cond.selects RX4 yX4_changed yX4_changed, Cond.code yX4_changed cX4_changed 4 (some .int), Cond.methodLink RL 57 yX7_sort]
def wsL_law_r17 : List Cond := [Cond.instanceMethod yX7_sort, Cond.selects RX7 yX7_sort yX7_sort, Cond.code yX7_sort cX7_sort 8 (some .int), Cond.methodLink RX7 175 yX7_merge, Cond.instanceMethod yX7_merge, Cond.selects RX7 yX7_merge yX7_merge, Cond.code yX7_merge cX7_merge 10 none, Cond.methodLink RX7 179 yX7_behind, Cond.instanceMethod yX7_behind, Cond.selects RX7 yX7_behind yX7_behind, Cond.code yX7_behind cX7_behind 7 (some .boolean), Cond.methodLink RL 58 yX6_act, Cond.instanceMethod yX6_act, Cond.selects RX6 yX6_act yX6_act, Cond.code yX6_act cX6_act 9 (some .int), Cond.methodLink RX6 121 yX2_acted, Cond.static yX2_acted, Cond.code yX2_acted cX2_acted 6 (some .long), Cond.fieldLink RX2 21 "ReckonBench$Kind" "nan" "J", Cond.methodLink RX2 17 yX2_namesSecond, Cond.static yX2_namesSecond, Cond.code yX2_namesSecond cX2_namesSecond 1 (some .boolean), Cond.methodLink RX2 25 yX1_magnitude, Cond.methodLink RX2 29 yX1_greater]
def wsL_law_r18 : List Cond := [Cond.instanceMethod yX1_greater, Cond.selects RX1 yX1_greater yX1_greater, Cond.code yX1_greater cX1_greater 5 (some .long), Cond.methodLink RX1 82 yX1_totalRank, Cond.methodLink RX2 33 yX1_lesser, Cond.instanceMethod yX1_lesser, Cond.selects RX1 yX1_lesser yX1_lesser, Cond.code yX1_lesser cX1_lesser 5 (some .long), Cond.methodLink RX2 36 yX2_toWhole, Cond.static yX2_toWhole, Cond.code yX2_toWhole cX2_toWhole 16 (some .long), Cond.methodLink RX2 74 yX1_isInfinite, Cond.instanceMethod yX1_isInfinite, Cond.selects RX1 yX1_isInfinite yX1_isInfinite, Cond.code yX1_isInfinite cX1_isInfinite 3 (some .boolean), Cond.methodLink RX2 43 yX1_one, Cond.instanceMethod yX1_one, Cond.selects RX1 yX1_one yX1_one, Cond.code yX1_one cX1_one 1 (some .long), Cond.methodLink RX2 47 yX1_signed, Cond.methodLink RX2 51 yX2_plus, Cond.static yX2_plus, Cond.code yX2_plus cX2_plus 6 (some .long), Cond.methodLink RX2 102 yX2_plusLesser]
def wsL_law_r19 : List Cond := [Cond.static yX2_plusLesser, Cond.code yX2_plusLesser cX2_plusLesser 16 (some .long), Cond.methodLink RX2 105 yX2_shiftedRight, Cond.static yX2_shiftedRight, Cond.code yX2_shiftedRight cX2_shiftedRight 5 (some .long), Cond.methodLink RX2 55 yX2_minus, Cond.static yX2_minus, Cond.code yX2_minus cX2_minus 5 (some .long), Cond.methodLink RX2 67 yX1_opposite, Cond.instanceMethod yX1_opposite, Cond.selects RX1 yX1_opposite yX1_opposite, Cond.code yX1_opposite cX1_opposite 3 (some .long), Cond.methodLink RX2 58 yX2_times, Cond.static yX2_times, Cond.code yX2_times cX2_times 16 (some .long), Cond.fieldLink RX2 77 "ReckonBench$Kind" "infinite" "J", Cond.methodLink RX2 109 yX2_productTop, Cond.static yX2_productTop, Cond.code yX2_productTop cX2_productTop 21 (some .long), Cond.constantLong RX2 112 (134217727), Cond.constantLong RX2 114 (131071), Cond.methodLink RX2 61 yX2_over, Cond.static yX2_over, Cond.code yX2_over cX2_over 15 (some .long)]
def wsL_law_r20 : List Cond := [Cond.methodLink RX2 116 yX2_quotientOf, Cond.static yX2_quotientOf, Cond.code yX2_quotientOf cX2_quotientOf 11 (some .long), Cond.methodLink RX2 64 yX2_remainder, Cond.static yX2_remainder, Cond.code yX2_remainder cX2_remainder 11 (some .long), Cond.methodLink RL 62 yX7_act, Cond.instanceMethod yX7_act, Cond.selects RX7 yX7_act yX7_act, Cond.code yX7_act cX7_act 7 (some .int), Cond.methodLink RX7 183 yX7_result, Cond.instanceMethod yX7_result, Cond.selects RX7 yX7_result yX7_result, Cond.code yX7_result cX7_result 7 (some .long), Cond.methodLink RX7 187 yX7_greater, Cond.instanceMethod yX7_greater, Cond.selects RX7 yX7_greater yX7_greater, Cond.code yX7_greater cX7_greater 6 (some .long), Cond.methodLink RX7 190 yX7_lesser, Cond.instanceMethod yX7_lesser, Cond.selects RX7 yX7_lesser yX7_lesser, Cond.code yX7_lesser cX7_lesser 6 (some .long), Cond.methodLink RX7 193 yX7_wholeOf, Cond.instanceMethod yX7_wholeOf]
def wsL_law_r21 : List Cond := [Cond.selects RX7 yX7_wholeOf yX7_wholeOf, Cond.code yX7_wholeOf cX7_wholeOf 17 (some .long), Cond.methodLink RX7 197 yX7_plus, Cond.instanceMethod yX7_plus, Cond.selects RX7 yX7_plus yX7_plus, Cond.code yX7_plus cX7_plus 6 (some .long), Cond.methodLink RX7 115 yX7_larger, Cond.instanceMethod yX7_larger, Cond.selects RX7 yX7_larger yX7_larger, Cond.code yX7_larger cX7_larger 16 (some .long), Cond.methodLink RX7 200 yX7_turned, Cond.instanceMethod yX7_turned, Cond.selects RX7 yX7_turned yX7_turned, Cond.code yX7_turned cX7_turned 4 (some .long), Cond.methodLink RX7 203 yX7_times, Cond.instanceMethod yX7_times, Cond.selects RX7 yX7_times yX7_times, Cond.code yX7_times cX7_times 20 (some .long), Cond.constantLong RX7 129 (134217727), Cond.constantLong RX7 131 (35184372088831), Cond.methodLink RX7 206 yX7_over, Cond.instanceMethod yX7_over, Cond.selects RX7 yX7_over yX7_over, Cond.code yX7_over cX7_over 14 (some .long)]
def wsL_law_r22 : List Cond := [Cond.methodLink RX7 209 yX7_left, Cond.instanceMethod yX7_left, Cond.selects RX7 yX7_left yX7_left, Cond.code yX7_left cX7_left 11 (some .long), Cond.methodLink RL 63 yX6_step, Cond.instanceMethod yX6_step, Cond.selects RX6 yX6_step yX6_step, Cond.code yX6_step cX6_step 10 (some .int), Cond.constant RX6 125 (-1000000000), Cond.constant RX6 126 (1000000000), Cond.methodLink RX6 134 Lib.MathLoose.abs_long.x, Cond.static Lib.MathLoose.abs_long.x, Cond.code Lib.MathLoose.abs_long.x Lib.MathLoose.abs_long.code 2 (some .long), Cond.methodLink RX6 127 yX1_stepped, Cond.instanceMethod yX1_stepped, Cond.selects RX1 yX1_stepped yX1_stepped, Cond.code yX1_stepped cX1_stepped 6 (some .long), Cond.methodLink RX1 85 Lib.MathLoose.min_long.x, Cond.methodLink RX1 89 Lib.MathLoose.max_long.x, Cond.methodLink RX1 95 Lib.MathLoose.abs_long.x, Cond.methodLink RX6 131 yX1_valueRank, Cond.methodLink RL 66 yX7_step, Cond.instanceMethod yX7_step, Cond.selects RX7 yX7_step yX7_step]
def wsL_law_r23 : List Cond := [Cond.code yX7_step cX7_step 12 (some .int), Cond.constant RX7 212 (-1000000000), Cond.constant RX7 213 (1000000000), Cond.methodLink RX7 136 yX7_ofRank, Cond.instanceMethod yX7_ofRank, Cond.selects RX7 yX7_ofRank yX7_ofRank, Cond.code yX7_ofRank cX7_ofRank 5 (some .long), Cond.methodLink RL 67 yX6_least, Cond.instanceMethod yX6_least, Cond.selects RX6 yX6_least yX6_least, Cond.code yX6_least cX6_least 3 (some .int), Cond.methodLink RX6 137 yX3_firstExtreme, Cond.instanceMethod yX3_firstExtreme, Cond.selects RX3 yX3_firstExtreme yX3_firstExtreme, Cond.code yX3_firstExtreme cX3_firstExtreme 6 (some .int), Cond.methodLink RX3 37 yX1_isNan, Cond.methodLink RX3 41 yX3_isBeyond, Cond.instanceMethod yX3_isBeyond, Cond.selects RX3 yX3_isBeyond yX3_isBeyond, Cond.code yX3_isBeyond cX3_isBeyond 6 (some .boolean), Cond.methodLink RX3 45 yX1_isBelow, Cond.methodLink RL 71 yX7_least, Cond.instanceMethod yX7_least, Cond.selects RX7 yX7_least yX7_least]
def wsL_law_r24 : List Cond := [Cond.code yX7_least cX7_least 2 (some .int), Cond.methodLink RX7 214 yX7_farthest, Cond.instanceMethod yX7_farthest, Cond.selects RX7 yX7_farthest yX7_farthest, Cond.code yX7_farthest cX7_farthest 6 (some .int), Cond.methodLink RL 72 yX6_greatest, Cond.instanceMethod yX6_greatest, Cond.selects RX6 yX6_greatest yX6_greatest, Cond.code yX6_greatest cX6_greatest 3 (some .int), Cond.methodLink RL 75 yX7_greatest, Cond.instanceMethod yX7_greatest, Cond.selects RX7 yX7_greatest yX7_greatest, Cond.code yX7_greatest cX7_greatest 2 (some .int), Cond.methodLink RL 76 yX6_sum, Cond.instanceMethod yX6_sum, Cond.selects RX6 yX6_sum yX6_sum, Cond.code yX6_sum cX6_sum 4 (some .long), Cond.methodLink RX6 141 yX5_plain, Cond.static yX5_plain, Cond.initialized RX5, Cond.code yX5_plain cX5_plain 5 (some .long), Cond.methodLink RX5 7 yX2_plus, Cond.methodLink RX6 147 yX5_carried, Cond.static yX5_carried]
def wsL_law_r25 : List Cond := [Cond.code yX5_carried cX5_carried 11 (some .long), Cond.methodLink RX5 13 yX2_minus, Cond.methodLink RX6 150 yX5_halved, Cond.static yX5_halved, Cond.code yX5_halved cX5_halved 2 (some .long), Cond.methodLink RX5 16 yX5_ofPart, Cond.static yX5_ofPart, Cond.code yX5_ofPart cX5_ofPart 10 (some .long), Cond.methodLink RL 79 yX7_sum, Cond.instanceMethod yX7_sum, Cond.selects RX7 yX7_sum yX7_sum, Cond.code yX7_sum cX7_sum 13 (some .long), Cond.methodLink RX7 218 yX7_halves, Cond.instanceMethod yX7_halves, Cond.selects RX7 yX7_halves yX7_halves, Cond.code yX7_halves cX7_halves 7 (some .long), Cond.methodLink RL 80 yX6_find, Cond.instanceMethod yX6_find, Cond.selects RX6 yX6_find yX6_find, Cond.code yX6_find cX6_find 5 (some .int), Cond.methodLink RX6 153 yX3_isSorted, Cond.instanceMethod yX3_isSorted, Cond.selects RX3 yX3_isSorted yX3_isSorted, Cond.code yX3_isSorted cX3_isSorted 2 (some .boolean)]
def wsL_law_r26 : List Cond := [Cond.methodLink RX3 49 yX1_totalRank, Cond.methodLink RX6 157 yX3_firstWith, Cond.instanceMethod yX3_firstWith, Cond.selects RX3 yX3_firstWith yX3_firstWith, Cond.code yX3_firstWith cX3_firstWith 4 (some .int), Cond.methodLink RL 84 yX7_find, Cond.instanceMethod yX7_find, Cond.selects RX7 yX7_find yX7_find, Cond.code yX7_find cX7_find 6 (some .int), Cond.methodLink RL 85 yX6_interval, Cond.instanceMethod yX6_interval, Cond.selects RX6 yX6_interval yX6_interval, Cond.code yX6_interval cX6_interval 9 (some .int), Cond.methodLink RX6 161 yX3_hasPair, Cond.instanceMethod yX3_hasPair, Cond.selects RX3 yX3_hasPair yX3_hasPair, Cond.code yX3_hasPair cX3_hasPair 2 (some .boolean), Cond.methodLink RX6 166 yX3_pair, Cond.instanceMethod yX3_pair, Cond.selects RX3 yX3_pair yX3_pair, Cond.code yX3_pair cX3_pair 2 (some (.object "ReckonBench$Interval")), Cond.classLink RX3 25 RX0, Cond.instantiable RX0 3, Cond.initialized RX0]
def wsL_law_r27 : List Cond := [Cond.methodLink RX3 27 yX0_init, Cond.instanceMethod yX0_init, Cond.code yX0_init cX0_init 6 none, Cond.methodLink RX0 3 objectInit, Cond.fieldLink RX0 9 "ReckonBench$Interval" "kind" "LReckonBench$Kind;", Cond.fieldLink RX0 13 "ReckonBench$Interval" "low" "J", Cond.fieldLink RX0 17 "ReckonBench$Interval" "high" "J", Cond.methodLink RX6 170 yX0_stands, Cond.instanceMethod yX0_stands, Cond.selects RX0 yX0_stands yX0_stands, Cond.code yX0_stands cX0_stands 1 (some .boolean), Cond.methodLink RX0 20 yX1_atMost, Cond.methodLink RX6 173 yX0_hasZero, Cond.instanceMethod yX0_hasZero, Cond.selects RX0 yX0_hasZero yX0_hasZero, Cond.code yX0_hasZero cX0_hasZero 1 (some .boolean), Cond.methodLink RX6 176 yX0_everything, Cond.instanceMethod yX0_everything, Cond.selects RX0 yX0_everything yX0_everything, Cond.code yX0_everything cX0_everything 1 (some (.object "ReckonBench$Interval")), Cond.classLink RX0 1 RX0, Cond.fieldLink RX0 26 "ReckonBench$Kind" "infinite" "J", Cond.methodLink RX0 29 yX1_signed, Cond.methodLink RX0 33 yX0_init]
def wsL_law_r28 : List Cond := [Cond.methodLink RX6 180 yX3_putPair, Cond.instanceMethod yX3_putPair, Cond.selects RX3 yX3_putPair yX3_putPair, Cond.code yX3_putPair cX3_putPair 3 none, Cond.fieldLink RX3 30 "ReckonBench$Interval" "low" "J", Cond.fieldLink RX3 34 "ReckonBench$Interval" "high" "J", Cond.methodLink RX6 184 yX0_acted, Cond.instanceMethod yX0_acted, Cond.selects RX0 yX0_acted yX0_acted, Cond.code yX0_acted cX0_acted 3 (some (.object "ReckonBench$Interval")), Cond.methodLink RX0 39 yX2_plus, Cond.methodLink RX0 45 yX0_outward, Cond.instanceMethod yX0_outward, Cond.selects RX0 yX0_outward yX0_outward, Cond.code yX0_outward cX0_outward 9 (some (.object "ReckonBench$Interval")), Cond.methodLink RX0 79 yX1_isNan, Cond.methodLink RX0 83 yX1_stepped, Cond.methodLink RX0 49 yX2_minus, Cond.methodLink RX0 52 yX0_product, Cond.instanceMethod yX0_product, Cond.selects RX0 yX0_product yX0_product, Cond.code yX0_product cX0_product 5 (some .long), Cond.methodLink RX0 69 yX2_times, Cond.methodLink RX0 72 yX0_zeroIfNan]
def wsL_law_r29 : List Cond := [Cond.instanceMethod yX0_zeroIfNan, Cond.selects RX0 yX0_zeroIfNan yX0_zeroIfNan, Cond.code yX0_zeroIfNan cX0_zeroIfNan 3 (some .long), Cond.methodLink RX0 56 yX0_ofFour, Cond.instanceMethod yX0_ofFour, Cond.selects RX0 yX0_ofFour yX0_ofFour, Cond.code yX0_ofFour cX0_ofFour 9 (some (.object "ReckonBench$Interval")), Cond.methodLink RX0 63 yX1_lesser, Cond.methodLink RX0 66 yX1_greater, Cond.methodLink RX0 60 yX0_quotient, Cond.instanceMethod yX0_quotient, Cond.selects RX0 yX0_quotient yX0_quotient, Cond.code yX0_quotient cX0_quotient 5 (some .long), Cond.methodLink RX0 76 yX2_over, Cond.methodLink RX6 187 yX0_nothing, Cond.instanceMethod yX0_nothing, Cond.selects RX0 yX0_nothing yX0_nothing, Cond.code yX0_nothing cX0_nothing 1 (some (.object "ReckonBench$Interval")), Cond.fieldLink RX0 36 "ReckonBench$Kind" "nan" "J", Cond.methodLink RL 88 yX7_interval, Cond.instanceMethod yX7_interval, Cond.selects RX7 yX7_interval yX7_interval, Cond.code yX7_interval cX7_interval 27 (some .int), Cond.methodLink RX7 222 yX7_noPair]
def wsL_law_r30 : List Cond := [Cond.instanceMethod yX7_noPair, Cond.selects RX7 yX7_noPair yX7_noPair, Cond.code yX7_noPair cX7_noPair 3 (some .boolean), Cond.methodLink RX7 225 yX7_isInterval, Cond.instanceMethod yX7_isInterval, Cond.selects RX7 yX7_isInterval yX7_isInterval, Cond.code yX7_isInterval cX7_isInterval 8 (some .boolean), Cond.methodLink RX7 228 yX7_bounds, Cond.instanceMethod yX7_bounds, Cond.selects RX7 yX7_bounds yX7_bounds, Cond.code yX7_bounds cX7_bounds 7 none, Cond.methodLink RX7 232 yX7_meet, Cond.instanceMethod yX7_meet, Cond.selects RX7 yX7_meet yX7_meet, Cond.code yX7_meet cX7_meet 9 (some .int), Cond.methodLink RX7 236 yX7_member, Cond.instanceMethod yX7_member, Cond.selects RX7 yX7_member yX7_member, Cond.code yX7_member cX7_member 9 (some .long), Cond.methodLink RX7 239 yX7_downward, Cond.instanceMethod yX7_downward, Cond.selects RX7 yX7_downward yX7_downward, Cond.code yX7_downward cX7_downward 4 (some .long), Cond.methodLink RX7 242 yX7_upward]
def wsL_law_r31 : List Cond := [Cond.instanceMethod yX7_upward, Cond.selects RX7 yX7_upward yX7_upward, Cond.code yX7_upward cX7_upward 4 (some .long), Cond.methodLink RL 89 yX6_move, Cond.instanceMethod yX6_move, Cond.selects RX6 yX6_move yX6_move, Cond.code yX6_move cX6_move 8 (some .int), Cond.methodLink RX6 190 yX2_turned, Cond.static yX2_turned, Cond.code yX2_turned cX2_turned 5 (some .long), Cond.methodLink RL 93 yX7_move, Cond.instanceMethod yX7_move, Cond.selects RX7 yX7_move yX7_move, Cond.code yX7_move cX7_move 7 (some .int), Cond.methodLink RX7 245 yX7_turnedTo, Cond.instanceMethod yX7_turnedTo, Cond.selects RX7 yX7_turnedTo yX7_turnedTo, Cond.code yX7_turnedTo cX7_turnedTo 5 (some .long), Cond.methodLink RL 94 yX6_status, Cond.instanceMethod yX6_status, Cond.selects RX6 yX6_status yX6_status, Cond.code yX6_status cX6_status 1 (some .int), Cond.methodLink RL 98 yX7_status, Cond.instanceMethod yX7_status]
def wsL_law_r32 : List Cond := [Cond.selects RX7 yX7_status yX7_status, Cond.code yX7_status cX7_status 1 (some .int)]
set_option maxRecDepth 20000 in

/-- every word that any method of this claim needs -/
def zall : List Cond := wsL_law_r1 ++ (wsL_law_r2 ++ (wsL_law_r3 ++ (wsL_law_r4 ++ (wsL_law_r5 ++ (wsL_law_r6 ++ (wsL_law_r7 ++ (wsL_law_r8 ++ (wsL_law_r9 ++ (wsL_law_r10 ++ (wsL_law_r11 ++ (wsL_law_r12 ++ (wsL_law_r13 ++ (wsL_law_r14 ++ (wsL_law_r15 ++ (wsL_law_r16 ++ (wsL_law_r17 ++ (wsL_law_r18 ++ (wsL_law_r19 ++ (wsL_law_r20 ++ (wsL_law_r21 ++ (wsL_law_r22 ++ (wsL_law_r23 ++ (wsL_law_r24 ++ (wsL_law_r25 ++ (wsL_law_r26 ++ (wsL_law_r27 ++ (wsL_law_r28 ++ (wsL_law_r29 ++ (wsL_law_r30 ++ (wsL_law_r31 ++ (wsL_law_r32 ++ (wsX00 ++ (wsX30 ++ (wsX40 ++ (wsX60 ++ (wsX70))))))))))))))))))))))))))))))))))))
theorem zin__r1 : ∀ w ∈ wsL_law_r1, w ∈ zall := fun w h => List.mem_append_left _ h
theorem zin__r2 : ∀ w ∈ wsL_law_r2, w ∈ zall := fun w h => List.mem_append_right _ (List.mem_append_left _ h)
theorem zin__r3 : ∀ w ∈ wsL_law_r3, w ∈ zall := fun w h => List.mem_append_right _ (List.mem_append_right _ (List.mem_append_left _ h))
theorem zin__r4 : ∀ w ∈ wsL_law_r4, w ∈ zall := fun w h => List.mem_append_right _ (List.mem_append_right _ (List.mem_append_right _ (List.mem_append_left _ h)))
theorem zin__r5 : ∀ w ∈ wsL_law_r5, w ∈ zall := fun w h => List.mem_append_right _ (List.mem_append_right _ (List.mem_append_right _ (List.mem_append_right _ (List.mem_append_left _ h))))
theorem zin__r6 : ∀ w ∈ wsL_law_r6, w ∈ zall := fun w h => List.mem_append_right _ (List.mem_append_right _ (List.mem_append_right _ (List.mem_append_right _ (List.mem_append_right _ (List.mem_append_left _ h)))))
theorem zin__r7 : ∀ w ∈ wsL_law_r7, w ∈ zall := fun w h => List.mem_append_right _ (List.mem_append_right _ (List.mem_append_right _ (List.mem_append_right _ (List.mem_append_right _ (List.mem_append_right _ (List.mem_append_left _ h))))))
theorem zin__r8 : ∀ w ∈ wsL_law_r8, w ∈ zall := fun w h => List.mem_append_right _ (List.mem_append_right _ (List.mem_append_right _ (List.mem_append_right _ (List.mem_append_right _ (List.mem_append_right _ (List.mem_append_right _ (List.mem_append_left _ h)))))))
theorem zin__r9 : ∀ w ∈ wsL_law_r9, w ∈ zall := fun w h => List.mem_append_right _ (List.mem_append_right _ (List.mem_append_right _ (List.mem_append_right _ (List.mem_append_right _ (List.mem_append_right _ (List.mem_append_right _ (List.mem_append_right _ (List.mem_append_left _ h))))))))
theorem zin__r10 : ∀ w ∈ wsL_law_r10, w ∈ zall := fun w h => List.mem_append_right _ (List.mem_append_right _ (List.mem_append_right _ (List.mem_append_right _ (List.mem_append_right _ (List.mem_append_right _ (List.mem_append_right _ (List.mem_append_right _ (List.mem_append_right _ (List.mem_append_left _ h)))))))))
theorem zin__r11 : ∀ w ∈ wsL_law_r11, w ∈ zall := fun w h => List.mem_append_right _ (List.mem_append_right _ (List.mem_append_right _ (List.mem_append_right _ (List.mem_append_right _ (List.mem_append_right _ (List.mem_append_right _ (List.mem_append_right _ (List.mem_append_right _ (List.mem_append_right _ (List.mem_append_left _ h))))))))))
theorem zin__r12 : ∀ w ∈ wsL_law_r12, w ∈ zall := fun w h => List.mem_append_right _ (List.mem_append_right _ (List.mem_append_right _ (List.mem_append_right _ (List.mem_append_right _ (List.mem_append_right _ (List.mem_append_right _ (List.mem_append_right _ (List.mem_append_right _ (List.mem_append_right _ (List.mem_append_right _ (List.mem_append_left _ h)))))))))))
theorem zin__r13 : ∀ w ∈ wsL_law_r13, w ∈ zall := fun w h => List.mem_append_right _ (List.mem_append_right _ (List.mem_append_right _ (List.mem_append_right _ (List.mem_append_right _ (List.mem_append_right _ (List.mem_append_right _ (List.mem_append_right _ (List.mem_append_right _ (List.mem_append_right _ (List.mem_append_right _ (List.mem_append_right _ (List.mem_append_left _ h))))))))))))
theorem zin__r14 : ∀ w ∈ wsL_law_r14, w ∈ zall := fun w h => List.mem_append_right _ (List.mem_append_right _ (List.mem_append_right _ (List.mem_append_right _ (List.mem_append_right _ (List.mem_append_right _ (List.mem_append_right _ (List.mem_append_right _ (List.mem_append_right _ (List.mem_append_right _ (List.mem_append_right _ (List.mem_append_right _ (List.mem_append_right _ (List.mem_append_left _ h)))))))))))))
theorem zin__r15 : ∀ w ∈ wsL_law_r15, w ∈ zall := fun w h => List.mem_append_right _ (List.mem_append_right _ (List.mem_append_right _ (List.mem_append_right _ (List.mem_append_right _ (List.mem_append_right _ (List.mem_append_right _ (List.mem_append_right _ (List.mem_append_right _ (List.mem_append_right _ (List.mem_append_right _ (List.mem_append_right _ (List.mem_append_right _ (List.mem_append_right _ (List.mem_append_left _ h))))))))))))))
theorem zin__r16 : ∀ w ∈ wsL_law_r16, w ∈ zall := fun w h => List.mem_append_right _ (List.mem_append_right _ (List.mem_append_right _ (List.mem_append_right _ (List.mem_append_right _ (List.mem_append_right _ (List.mem_append_right _ (List.mem_append_right _ (List.mem_append_right _ (List.mem_append_right _ (List.mem_append_right _ (List.mem_append_right _ (List.mem_append_right _ (List.mem_append_right _ (List.mem_append_right _ (List.mem_append_left _ h)))))))))))))))
theorem zin__r17 : ∀ w ∈ wsL_law_r17, w ∈ zall := fun w h => List.mem_append_right _ (List.mem_append_right _ (List.mem_append_right _ (List.mem_append_right _ (List.mem_append_right _ (List.mem_append_right _ (List.mem_append_right _ (List.mem_append_right _ (List.mem_append_right _ (List.mem_append_right _ (List.mem_append_right _ (List.mem_append_right _ (List.mem_append_right _ (List.mem_append_right _ (List.mem_append_right _ (List.mem_append_right _ (List.mem_append_left _ h))))))))))))))))
theorem zin__r18 : ∀ w ∈ wsL_law_r18, w ∈ zall := fun w h => List.mem_append_right _ (List.mem_append_right _ (List.mem_append_right _ (List.mem_append_right _ (List.mem_append_right _ (List.mem_append_right _ (List.mem_append_right _ (List.mem_append_right _ (List.mem_append_right _ (List.mem_append_right _ (List.mem_append_right _ (List.mem_append_right _ (List.mem_append_right _ (List.mem_append_right _ (List.mem_append_right _ (List.mem_append_right _ (List.mem_append_right _ (List.mem_append_left _ h)))))))))))))))))
theorem zin__r19 : ∀ w ∈ wsL_law_r19, w ∈ zall := fun w h => List.mem_append_right _ (List.mem_append_right _ (List.mem_append_right _ (List.mem_append_right _ (List.mem_append_right _ (List.mem_append_right _ (List.mem_append_right _ (List.mem_append_right _ (List.mem_append_right _ (List.mem_append_right _ (List.mem_append_right _ (List.mem_append_right _ (List.mem_append_right _ (List.mem_append_right _ (List.mem_append_right _ (List.mem_append_right _ (List.mem_append_right _ (List.mem_append_right _ (List.mem_append_left _ h))))))))))))))))))
theorem zin__r20 : ∀ w ∈ wsL_law_r20, w ∈ zall := fun w h => List.mem_append_right _ (List.mem_append_right _ (List.mem_append_right _ (List.mem_append_right _ (List.mem_append_right _ (List.mem_append_right _ (List.mem_append_right _ (List.mem_append_right _ (List.mem_append_right _ (List.mem_append_right _ (List.mem_append_right _ (List.mem_append_right _ (List.mem_append_right _ (List.mem_append_right _ (List.mem_append_right _ (List.mem_append_right _ (List.mem_append_right _ (List.mem_append_right _ (List.mem_append_right _ (List.mem_append_left _ h)))))))))))))))))))
theorem zin__r21 : ∀ w ∈ wsL_law_r21, w ∈ zall := fun w h => List.mem_append_right _ (List.mem_append_right _ (List.mem_append_right _ (List.mem_append_right _ (List.mem_append_right _ (List.mem_append_right _ (List.mem_append_right _ (List.mem_append_right _ (List.mem_append_right _ (List.mem_append_right _ (List.mem_append_right _ (List.mem_append_right _ (List.mem_append_right _ (List.mem_append_right _ (List.mem_append_right _ (List.mem_append_right _ (List.mem_append_right _ (List.mem_append_right _ (List.mem_append_right _ (List.mem_append_right _ (List.mem_append_left _ h))))))))))))))))))))
theorem zin__r22 : ∀ w ∈ wsL_law_r22, w ∈ zall := fun w h => List.mem_append_right _ (List.mem_append_right _ (List.mem_append_right _ (List.mem_append_right _ (List.mem_append_right _ (List.mem_append_right _ (List.mem_append_right _ (List.mem_append_right _ (List.mem_append_right _ (List.mem_append_right _ (List.mem_append_right _ (List.mem_append_right _ (List.mem_append_right _ (List.mem_append_right _ (List.mem_append_right _ (List.mem_append_right _ (List.mem_append_right _ (List.mem_append_right _ (List.mem_append_right _ (List.mem_append_right _ (List.mem_append_right _ (List.mem_append_left _ h)))))))))))))))))))))
theorem zin__r23 : ∀ w ∈ wsL_law_r23, w ∈ zall := fun w h => List.mem_append_right _ (List.mem_append_right _ (List.mem_append_right _ (List.mem_append_right _ (List.mem_append_right _ (List.mem_append_right _ (List.mem_append_right _ (List.mem_append_right _ (List.mem_append_right _ (List.mem_append_right _ (List.mem_append_right _ (List.mem_append_right _ (List.mem_append_right _ (List.mem_append_right _ (List.mem_append_right _ (List.mem_append_right _ (List.mem_append_right _ (List.mem_append_right _ (List.mem_append_right _ (List.mem_append_right _ (List.mem_append_right _ (List.mem_append_right _ (List.mem_append_left _ h))))))))))))))))))))))
theorem zin__r24 : ∀ w ∈ wsL_law_r24, w ∈ zall := fun w h => List.mem_append_right _ (List.mem_append_right _ (List.mem_append_right _ (List.mem_append_right _ (List.mem_append_right _ (List.mem_append_right _ (List.mem_append_right _ (List.mem_append_right _ (List.mem_append_right _ (List.mem_append_right _ (List.mem_append_right _ (List.mem_append_right _ (List.mem_append_right _ (List.mem_append_right _ (List.mem_append_right _ (List.mem_append_right _ (List.mem_append_right _ (List.mem_append_right _ (List.mem_append_right _ (List.mem_append_right _ (List.mem_append_right _ (List.mem_append_right _ (List.mem_append_right _ (List.mem_append_left _ h)))))))))))))))))))))))
theorem zin__r25 : ∀ w ∈ wsL_law_r25, w ∈ zall := fun w h => List.mem_append_right _ (List.mem_append_right _ (List.mem_append_right _ (List.mem_append_right _ (List.mem_append_right _ (List.mem_append_right _ (List.mem_append_right _ (List.mem_append_right _ (List.mem_append_right _ (List.mem_append_right _ (List.mem_append_right _ (List.mem_append_right _ (List.mem_append_right _ (List.mem_append_right _ (List.mem_append_right _ (List.mem_append_right _ (List.mem_append_right _ (List.mem_append_right _ (List.mem_append_right _ (List.mem_append_right _ (List.mem_append_right _ (List.mem_append_right _ (List.mem_append_right _ (List.mem_append_right _ (List.mem_append_left _ h))))))))))))))))))))))))
theorem zin__r26 : ∀ w ∈ wsL_law_r26, w ∈ zall := fun w h => List.mem_append_right _ (List.mem_append_right _ (List.mem_append_right _ (List.mem_append_right _ (List.mem_append_right _ (List.mem_append_right _ (List.mem_append_right _ (List.mem_append_right _ (List.mem_append_right _ (List.mem_append_right _ (List.mem_append_right _ (List.mem_append_right _ (List.mem_append_right _ (List.mem_append_right _ (List.mem_append_right _ (List.mem_append_right _ (List.mem_append_right _ (List.mem_append_right _ (List.mem_append_right _ (List.mem_append_right _ (List.mem_append_right _ (List.mem_append_right _ (List.mem_append_right _ (List.mem_append_right _ (List.mem_append_right _ (List.mem_append_left _ h)))))))))))))))))))))))))
theorem zin__r27 : ∀ w ∈ wsL_law_r27, w ∈ zall := fun w h => List.mem_append_right _ (List.mem_append_right _ (List.mem_append_right _ (List.mem_append_right _ (List.mem_append_right _ (List.mem_append_right _ (List.mem_append_right _ (List.mem_append_right _ (List.mem_append_right _ (List.mem_append_right _ (List.mem_append_right _ (List.mem_append_right _ (List.mem_append_right _ (List.mem_append_right _ (List.mem_append_right _ (List.mem_append_right _ (List.mem_append_right _ (List.mem_append_right _ (List.mem_append_right _ (List.mem_append_right _ (List.mem_append_right _ (List.mem_append_right _ (List.mem_append_right _ (List.mem_append_right _ (List.mem_append_right _ (List.mem_append_right _ (List.mem_append_left _ h))))))))))))))))))))))))))
theorem zin__r28 : ∀ w ∈ wsL_law_r28, w ∈ zall := fun w h => List.mem_append_right _ (List.mem_append_right _ (List.mem_append_right _ (List.mem_append_right _ (List.mem_append_right _ (List.mem_append_right _ (List.mem_append_right _ (List.mem_append_right _ (List.mem_append_right _ (List.mem_append_right _ (List.mem_append_right _ (List.mem_append_right _ (List.mem_append_right _ (List.mem_append_right _ (List.mem_append_right _ (List.mem_append_right _ (List.mem_append_right _ (List.mem_append_right _ (List.mem_append_right _ (List.mem_append_right _ (List.mem_append_right _ (List.mem_append_right _ (List.mem_append_right _ (List.mem_append_right _ (List.mem_append_right _ (List.mem_append_right _ (List.mem_append_right _ (List.mem_append_left _ h)))))))))))))))))))))))))))
theorem zin__r29 : ∀ w ∈ wsL_law_r29, w ∈ zall := fun w h => List.mem_append_right _ (List.mem_append_right _ (List.mem_append_right _ (List.mem_append_right _ (List.mem_append_right _ (List.mem_append_right _ (List.mem_append_right _ (List.mem_append_right _ (List.mem_append_right _ (List.mem_append_right _ (List.mem_append_right _ (List.mem_append_right _ (List.mem_append_right _ (List.mem_append_right _ (List.mem_append_right _ (List.mem_append_right _ (List.mem_append_right _ (List.mem_append_right _ (List.mem_append_right _ (List.mem_append_right _ (List.mem_append_right _ (List.mem_append_right _ (List.mem_append_right _ (List.mem_append_right _ (List.mem_append_right _ (List.mem_append_right _ (List.mem_append_right _ (List.mem_append_right _ (List.mem_append_left _ h))))))))))))))))))))))))))))
theorem zin__r30 : ∀ w ∈ wsL_law_r30, w ∈ zall := fun w h => List.mem_append_right _ (List.mem_append_right _ (List.mem_append_right _ (List.mem_append_right _ (List.mem_append_right _ (List.mem_append_right _ (List.mem_append_right _ (List.mem_append_right _ (List.mem_append_right _ (List.mem_append_right _ (List.mem_append_right _ (List.mem_append_right _ (List.mem_append_right _ (List.mem_append_right _ (List.mem_append_right _ (List.mem_append_right _ (List.mem_append_right _ (List.mem_append_right _ (List.mem_append_right _ (List.mem_append_right _ (List.mem_append_right _ (List.mem_append_right _ (List.mem_append_right _ (List.mem_append_right _ (List.mem_append_right _ (List.mem_append_right _ (List.mem_append_right _ (List.mem_append_right _ (List.mem_append_right _ (List.mem_append_left _ h)))))))))))))))))))))))))))))
theorem zin__r31 : ∀ w ∈ wsL_law_r31, w ∈ zall := fun w h => List.mem_append_right _ (List.mem_append_right _ (List.mem_append_right _ (List.mem_append_right _ (List.mem_append_right _ (List.mem_append_right _ (List.mem_append_right _ (List.mem_append_right _ (List.mem_append_right _ (List.mem_append_right _ (List.mem_append_right _ (List.mem_append_right _ (List.mem_append_right _ (List.mem_append_right _ (List.mem_append_right _ (List.mem_append_right _ (List.mem_append_right _ (List.mem_append_right _ (List.mem_append_right _ (List.mem_append_right _ (List.mem_append_right _ (List.mem_append_right _ (List.mem_append_right _ (List.mem_append_right _ (List.mem_append_right _ (List.mem_append_right _ (List.mem_append_right _ (List.mem_append_right _ (List.mem_append_right _ (List.mem_append_right _ (List.mem_append_left _ h))))))))))))))))))))))))))))))
theorem zin__r32 : ∀ w ∈ wsL_law_r32, w ∈ zall := fun w h => List.mem_append_right _ (List.mem_append_right _ (List.mem_append_right _ (List.mem_append_right _ (List.mem_append_right _ (List.mem_append_right _ (List.mem_append_right _ (List.mem_append_right _ (List.mem_append_right _ (List.mem_append_right _ (List.mem_append_right _ (List.mem_append_right _ (List.mem_append_right _ (List.mem_append_right _ (List.mem_append_right _ (List.mem_append_right _ (List.mem_append_right _ (List.mem_append_right _ (List.mem_append_right _ (List.mem_append_right _ (List.mem_append_right _ (List.mem_append_right _ (List.mem_append_right _ (List.mem_append_right _ (List.mem_append_right _ (List.mem_append_right _ (List.mem_append_right _ (List.mem_append_right _ (List.mem_append_right _ (List.mem_append_right _ (List.mem_append_right _ (List.mem_append_left _ h)))))))))))))))))))))))))))))))
theorem zin_X0 : ∀ w ∈ wsX00, w ∈ zall := fun w h => List.mem_append_right _ (List.mem_append_right _ (List.mem_append_right _ (List.mem_append_right _ (List.mem_append_right _ (List.mem_append_right _ (List.mem_append_right _ (List.mem_append_right _ (List.mem_append_right _ (List.mem_append_right _ (List.mem_append_right _ (List.mem_append_right _ (List.mem_append_right _ (List.mem_append_right _ (List.mem_append_right _ (List.mem_append_right _ (List.mem_append_right _ (List.mem_append_right _ (List.mem_append_right _ (List.mem_append_right _ (List.mem_append_right _ (List.mem_append_right _ (List.mem_append_right _ (List.mem_append_right _ (List.mem_append_right _ (List.mem_append_right _ (List.mem_append_right _ (List.mem_append_right _ (List.mem_append_right _ (List.mem_append_right _ (List.mem_append_right _ (List.mem_append_right _ (List.mem_append_left _ h))))))))))))))))))))))))))))))))
theorem zin_X3 : ∀ w ∈ wsX30, w ∈ zall := fun w h => List.mem_append_right _ (List.mem_append_right _ (List.mem_append_right _ (List.mem_append_right _ (List.mem_append_right _ (List.mem_append_right _ (List.mem_append_right _ (List.mem_append_right _ (List.mem_append_right _ (List.mem_append_right _ (List.mem_append_right _ (List.mem_append_right _ (List.mem_append_right _ (List.mem_append_right _ (List.mem_append_right _ (List.mem_append_right _ (List.mem_append_right _ (List.mem_append_right _ (List.mem_append_right _ (List.mem_append_right _ (List.mem_append_right _ (List.mem_append_right _ (List.mem_append_right _ (List.mem_append_right _ (List.mem_append_right _ (List.mem_append_right _ (List.mem_append_right _ (List.mem_append_right _ (List.mem_append_right _ (List.mem_append_right _ (List.mem_append_right _ (List.mem_append_right _ (List.mem_append_right _ (List.mem_append_left _ h)))))))))))))))))))))))))))))))))
theorem zin_X4 : ∀ w ∈ wsX40, w ∈ zall := fun w h => List.mem_append_right _ (List.mem_append_right _ (List.mem_append_right _ (List.mem_append_right _ (List.mem_append_right _ (List.mem_append_right _ (List.mem_append_right _ (List.mem_append_right _ (List.mem_append_right _ (List.mem_append_right _ (List.mem_append_right _ (List.mem_append_right _ (List.mem_append_right _ (List.mem_append_right _ (List.mem_append_right _ (List.mem_append_right _ (List.mem_append_right _ (List.mem_append_right _ (List.mem_append_right _ (List.mem_append_right _ (List.mem_append_right _ (List.mem_append_right _ (List.mem_append_right _ (List.mem_append_right _ (List.mem_append_right _ (List.mem_append_right _ (List.mem_append_right _ (List.mem_append_right _ (List.mem_append_right _ (List.mem_append_right _ (List.mem_append_right _ (List.mem_append_right _ (List.mem_append_right _ (List.mem_append_right _ (List.mem_append_left _ h))))))))))))))))))))))))))))))))))
theorem zin_X6 : ∀ w ∈ wsX60, w ∈ zall := fun w h => List.mem_append_right _ (List.mem_append_right _ (List.mem_append_right _ (List.mem_append_right _ (List.mem_append_right _ (List.mem_append_right _ (List.mem_append_right _ (List.mem_append_right _ (List.mem_append_right _ (List.mem_append_right _ (List.mem_append_right _ (List.mem_append_right _ (List.mem_append_right _ (List.mem_append_right _ (List.mem_append_right _ (List.mem_append_right _ (List.mem_append_right _ (List.mem_append_right _ (List.mem_append_right _ (List.mem_append_right _ (List.mem_append_right _ (List.mem_append_right _ (List.mem_append_right _ (List.mem_append_right _ (List.mem_append_right _ (List.mem_append_right _ (List.mem_append_right _ (List.mem_append_right _ (List.mem_append_right _ (List.mem_append_right _ (List.mem_append_right _ (List.mem_append_right _ (List.mem_append_right _ (List.mem_append_right _ (List.mem_append_right _ (List.mem_append_left _ h)))))))))))))))))))))))))))))))))))
theorem zin_X7 : ∀ w ∈ wsX70, w ∈ zall := fun w h => List.mem_append_right _ (List.mem_append_right _ (List.mem_append_right _ (List.mem_append_right _ (List.mem_append_right _ (List.mem_append_right _ (List.mem_append_right _ (List.mem_append_right _ (List.mem_append_right _ (List.mem_append_right _ (List.mem_append_right _ (List.mem_append_right _ (List.mem_append_right _ (List.mem_append_right _ (List.mem_append_right _ (List.mem_append_right _ (List.mem_append_right _ (List.mem_append_right _ (List.mem_append_right _ (List.mem_append_right _ (List.mem_append_right _ (List.mem_append_right _ (List.mem_append_right _ (List.mem_append_right _ (List.mem_append_right _ (List.mem_append_right _ (List.mem_append_right _ (List.mem_append_right _ (List.mem_append_right _ (List.mem_append_right _ (List.mem_append_right _ (List.mem_append_right _ (List.mem_append_right _ (List.mem_append_right _ (List.mem_append_right _ (List.mem_append_right _ h)))))))))))))))))))))))))))))))))))
theorem zgd__r1 : wsL_law_r1.all goodWord = true := by decide +kernel
theorem zgd__r2 : wsL_law_r2.all goodWord = true := by decide +kernel
theorem zgd__r3 : wsL_law_r3.all goodWord = true := by decide +kernel
theorem zgd__r4 : wsL_law_r4.all goodWord = true := by decide +kernel
theorem zgd__r5 : wsL_law_r5.all goodWord = true := by decide +kernel
theorem zgd__r6 : wsL_law_r6.all goodWord = true := by decide +kernel
theorem zgd__r7 : wsL_law_r7.all goodWord = true := by decide +kernel
theorem zgd__r8 : wsL_law_r8.all goodWord = true := by decide +kernel
theorem zgd__r9 : wsL_law_r9.all goodWord = true := by decide +kernel
theorem zgd__r10 : wsL_law_r10.all goodWord = true := by decide +kernel
theorem zgd__r11 : wsL_law_r11.all goodWord = true := by decide +kernel
theorem zgd__r12 : wsL_law_r12.all goodWord = true := by decide +kernel
theorem zgd__r13 : wsL_law_r13.all goodWord = true := by decide +kernel
theorem zgd__r14 : wsL_law_r14.all goodWord = true := by decide +kernel
theorem zgd__r15 : wsL_law_r15.all goodWord = true := by decide +kernel
theorem zgd__r16 : wsL_law_r16.all goodWord = true := by decide +kernel
theorem zgd__r17 : wsL_law_r17.all goodWord = true := by decide +kernel
theorem zgd__r18 : wsL_law_r18.all goodWord = true := by decide +kernel
theorem zgd__r19 : wsL_law_r19.all goodWord = true := by decide +kernel
theorem zgd__r20 : wsL_law_r20.all goodWord = true := by decide +kernel
theorem zgd__r21 : wsL_law_r21.all goodWord = true := by decide +kernel
theorem zgd__r22 : wsL_law_r22.all goodWord = true := by decide +kernel
theorem zgd__r23 : wsL_law_r23.all goodWord = true := by decide +kernel
theorem zgd__r24 : wsL_law_r24.all goodWord = true := by decide +kernel
theorem zgd__r25 : wsL_law_r25.all goodWord = true := by decide +kernel
theorem zgd__r26 : wsL_law_r26.all goodWord = true := by decide +kernel
theorem zgd__r27 : wsL_law_r27.all goodWord = true := by decide +kernel
theorem zgd__r28 : wsL_law_r28.all goodWord = true := by decide +kernel
theorem zgd__r29 : wsL_law_r29.all goodWord = true := by decide +kernel
theorem zgd__r30 : wsL_law_r30.all goodWord = true := by decide +kernel
theorem zgd__r31 : wsL_law_r31.all goodWord = true := by decide +kernel
theorem zgd__r32 : wsL_law_r32.all goodWord = true := by decide +kernel
theorem zgd_X0 : wsX00.all goodWord = true := by decide +kernel
theorem zgd_X3 : wsX30.all goodWord = true := by decide +kernel
theorem zgd_X4 : wsX40.all goodWord = true := by decide +kernel
theorem zgd_X6 : wsX60.all goodWord = true := by decide +kernel
theorem zgd_X7 : wsX70.all goodWord = true := by decide +kernel
theorem zgood : ∀ w ∈ zall, goodWord w = true := by
  intro w h
  rcases List.mem_append.mp h with h | h
  · exact List.all_eq_true.mp zgd__r1 w h
  rcases List.mem_append.mp h with h | h
  · exact List.all_eq_true.mp zgd__r2 w h
  rcases List.mem_append.mp h with h | h
  · exact List.all_eq_true.mp zgd__r3 w h
  rcases List.mem_append.mp h with h | h
  · exact List.all_eq_true.mp zgd__r4 w h
  rcases List.mem_append.mp h with h | h
  · exact List.all_eq_true.mp zgd__r5 w h
  rcases List.mem_append.mp h with h | h
  · exact List.all_eq_true.mp zgd__r6 w h
  rcases List.mem_append.mp h with h | h
  · exact List.all_eq_true.mp zgd__r7 w h
  rcases List.mem_append.mp h with h | h
  · exact List.all_eq_true.mp zgd__r8 w h
  rcases List.mem_append.mp h with h | h
  · exact List.all_eq_true.mp zgd__r9 w h
  rcases List.mem_append.mp h with h | h
  · exact List.all_eq_true.mp zgd__r10 w h
  rcases List.mem_append.mp h with h | h
  · exact List.all_eq_true.mp zgd__r11 w h
  rcases List.mem_append.mp h with h | h
  · exact List.all_eq_true.mp zgd__r12 w h
  rcases List.mem_append.mp h with h | h
  · exact List.all_eq_true.mp zgd__r13 w h
  rcases List.mem_append.mp h with h | h
  · exact List.all_eq_true.mp zgd__r14 w h
  rcases List.mem_append.mp h with h | h
  · exact List.all_eq_true.mp zgd__r15 w h
  rcases List.mem_append.mp h with h | h
  · exact List.all_eq_true.mp zgd__r16 w h
  rcases List.mem_append.mp h with h | h
  · exact List.all_eq_true.mp zgd__r17 w h
  rcases List.mem_append.mp h with h | h
  · exact List.all_eq_true.mp zgd__r18 w h
  rcases List.mem_append.mp h with h | h
  · exact List.all_eq_true.mp zgd__r19 w h
  rcases List.mem_append.mp h with h | h
  · exact List.all_eq_true.mp zgd__r20 w h
  rcases List.mem_append.mp h with h | h
  · exact List.all_eq_true.mp zgd__r21 w h
  rcases List.mem_append.mp h with h | h
  · exact List.all_eq_true.mp zgd__r22 w h
  rcases List.mem_append.mp h with h | h
  · exact List.all_eq_true.mp zgd__r23 w h
  rcases List.mem_append.mp h with h | h
  · exact List.all_eq_true.mp zgd__r24 w h
  rcases List.mem_append.mp h with h | h
  · exact List.all_eq_true.mp zgd__r25 w h
  rcases List.mem_append.mp h with h | h
  · exact List.all_eq_true.mp zgd__r26 w h
  rcases List.mem_append.mp h with h | h
  · exact List.all_eq_true.mp zgd__r27 w h
  rcases List.mem_append.mp h with h | h
  · exact List.all_eq_true.mp zgd__r28 w h
  rcases List.mem_append.mp h with h | h
  · exact List.all_eq_true.mp zgd__r29 w h
  rcases List.mem_append.mp h with h | h
  · exact List.all_eq_true.mp zgd__r30 w h
  rcases List.mem_append.mp h with h | h
  · exact List.all_eq_true.mp zgd__r31 w h
  rcases List.mem_append.mp h with h | h
  · exact List.all_eq_true.mp zgd__r32 w h
  rcases List.mem_append.mp h with h | h
  · exact List.all_eq_true.mp zgd_X0 w h
  rcases List.mem_append.mp h with h | h
  · exact List.all_eq_true.mp zgd_X3 w h
  rcases List.mem_append.mp h with h | h
  · exact List.all_eq_true.mp zgd_X4 w h
  rcases List.mem_append.mp h with h | h
  · exact List.all_eq_true.mp zgd_X6 w h
  exact List.all_eq_true.mp zgd_X7 w h
def MWv (C : String) (y : MethodName) (cd : Cond) : Prop := Cond.instanceMethod y ∈ zall ∧ Cond.selects C y y ∈ zall ∧ Cond.initialized C ∈ zall ∧ cd ∈ zall
def MWs (y : MethodName) (cd : Cond) : Prop := Cond.static y ∈ zall ∧ Cond.initialized y.cls ∈ zall ∧ cd ∈ zall
theorem gV {own : String} {idx : Nat} {C : String} {y : MethodName} {cd : Cond} (h : MWv C y cd) (hl : Cond.methodLink own idx y ∈ zall) : GoodIn zall (wsV own idx C y (cd :: zall)) := by
  intro w hw
  have hm : w ∈ zall := by
    unfold wsV at hw
    rcases List.mem_append.mp hw with h1 | h1
    · simp only [List.mem_cons, List.not_mem_nil, or_false] at h1
      rcases h1 with rfl | rfl | rfl | rfl
      · exact hl
      · exact h.1
      · exact h.2.1
      · exact h.2.2.1
    · rcases List.mem_cons.mp h1 with h2 | h2
      · rw [h2]; exact h.2.2.2
      · exact h2
  exact ⟨hm, good_of_word (zgood w hm)⟩
theorem gS {own : String} {idx : Nat} {y : MethodName} {cd : Cond} (h : MWs y cd) (hl : Cond.methodLink own idx y ∈ zall) : GoodIn zall (va_wsS own idx y (cd :: zall)) := by
  intro w hw
  have hm : w ∈ zall := by
    unfold va_wsS at hw
    rcases List.mem_append.mp hw with h1 | h1
    · simp only [List.mem_cons, List.not_mem_nil, or_false] at h1
      rcases h1 with rfl | rfl | rfl
      · exact hl
      · exact h.1
      · exact h.2.1
    · rcases List.mem_cons.mp h1 with h2 | h2
      · rw [h2]; exact h.2.2
      · exact h2
  exact ⟨hm, good_of_word (zgood w hm)⟩
theorem gI {cd : Cond} (h : cd ∈ zall) : GoodIn zall (cd :: zall) := by
  intro w hw
  have hm : w ∈ zall := by
    rcases List.mem_cons.mp hw with h2 | h2
    · rw [h2]; exact h
    · exact h2
  exact ⟨hm, good_of_word (zgood w hm)⟩
