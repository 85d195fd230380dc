-- ===== PART A: goes FIRST, ahead of the names: the tables' words, and 'selects' of the private methods out of them =====
/-- a private method of a class that the tables say can be made, by its rows of tables_1 -/
def lw_okq (q : MethodName × Nat) : Prop := (q.1.cls ≠ "java/lang/invoke/MethodHandle" ∧ q.1.cls ≠ "java/lang/invoke/VarHandle") ∧ Cond.instantiable q.1.cls q.2 ∈ tables_1 ∧ Cond.privateMethod q.1 ∈ tables_1 ∧ Cond.instanceMethod q.1 ∈ tables_1
theorem lw_p0 : lw_okq (⟨"ReckonBench", "refuse", "(I)I"⟩, 5) := ⟨⟨by decide +kernel, by decide +kernel⟩, List.mem_of_getElem? (i := 12) (by decide +kernel), List.mem_of_getElem? (i := 56) (by decide +kernel), List.mem_of_getElem? (i := 57) (by decide +kernel)⟩
theorem lw_p1 : lw_okq (⟨"ReckonBench", "answer", "(I)I"⟩, 5) := ⟨⟨by decide +kernel, by decide +kernel⟩, List.mem_of_getElem? (i := 12) (by decide +kernel), List.mem_of_getElem? (i := 78) (by decide +kernel), List.mem_of_getElem? (i := 79) (by decide +kernel)⟩
theorem lw_p2 : lw_okq (⟨"ReckonBench", "rowAt", "(I)LReckonBench$Row;"⟩, 5) := ⟨⟨by decide +kernel, by decide +kernel⟩, List.mem_of_getElem? (i := 12) (by decide +kernel), List.mem_of_getElem? (i := 86) (by decide +kernel), List.mem_of_getElem? (i := 87) (by decide +kernel)⟩
theorem lw_p3 : lw_okq (⟨"ReckonBench", "refuseLong", "(I)J"⟩, 5) := ⟨⟨by decide +kernel, by decide +kernel⟩, List.mem_of_getElem? (i := 12) (by decide +kernel), List.mem_of_getElem? (i := 166) (by decide +kernel), List.mem_of_getElem? (i := 167) (by decide +kernel)⟩
theorem lw_p4 : lw_okq (⟨"ReckonBench", "answerLong", "(J)J"⟩, 5) := ⟨⟨by decide +kernel, by decide +kernel⟩, List.mem_of_getElem? (i := 12) (by decide +kernel), List.mem_of_getElem? (i := 170) (by decide +kernel), List.mem_of_getElem? (i := 171) (by decide +kernel)⟩
theorem lw_p5 : lw_okq (⟨"ReckonBench$Kind", "exponentField", "(J)I"⟩, 9) := ⟨⟨by decide +kernel, by decide +kernel⟩, List.mem_of_getElem? (i := 207) (by decide +kernel), List.mem_of_getElem? (i := 205) (by decide +kernel), List.mem_of_getElem? (i := 206) (by decide +kernel)⟩
theorem lw_p6 : lw_okq (⟨"ReckonBench$Interval", "outward", "(JJ)LReckonBench$Interval;"⟩, 3) := ⟨⟨by decide +kernel, by decide +kernel⟩, List.mem_of_getElem? (i := 313) (by decide +kernel), List.mem_of_getElem? (i := 356) (by decide +kernel), List.mem_of_getElem? (i := 357) (by decide +kernel)⟩
theorem lw_p7 : lw_okq (⟨"ReckonBench$Interval", "product", "(JJ)J"⟩, 3) := ⟨⟨by decide +kernel, by decide +kernel⟩, List.mem_of_getElem? (i := 313) (by decide +kernel), List.mem_of_getElem? (i := 375) (by decide +kernel), List.mem_of_getElem? (i := 376) (by decide +kernel)⟩
theorem lw_p8 : lw_okq (⟨"ReckonBench$Interval", "zeroIfNan", "(J)J"⟩, 3) := ⟨⟨by decide +kernel, by decide +kernel⟩, List.mem_of_getElem? (i := 313) (by decide +kernel), List.mem_of_getElem? (i := 380) (by decide +kernel), List.mem_of_getElem? (i := 381) (by decide +kernel)⟩
theorem lw_p9 : lw_okq (⟨"ReckonBench$Interval", "ofFour", "(JJJJ)LReckonBench$Interval;"⟩, 3) := ⟨⟨by decide +kernel, by decide +kernel⟩, List.mem_of_getElem? (i := 313) (by decide +kernel), List.mem_of_getElem? (i := 384) (by decide +kernel), List.mem_of_getElem? (i := 385) (by decide +kernel)⟩
theorem lw_p10 : lw_okq (⟨"ReckonBench$Interval", "quotient", "(JJ)J"⟩, 3) := ⟨⟨by decide +kernel, by decide +kernel⟩, List.mem_of_getElem? (i := 313) (by decide +kernel), List.mem_of_getElem? (i := 390) (by decide +kernel), List.mem_of_getElem? (i := 391) (by decide +kernel)⟩
def lw_privs_1 : List (MethodName × Nat) := [(⟨"ReckonBench", "refuse", "(I)I"⟩, 5), (⟨"ReckonBench", "answer", "(I)I"⟩, 5), (⟨"ReckonBench", "rowAt", "(I)LReckonBench$Row;"⟩, 5), (⟨"ReckonBench", "refuseLong", "(I)J"⟩, 5), (⟨"ReckonBench", "answerLong", "(J)J"⟩, 5), (⟨"ReckonBench$Kind", "exponentField", "(J)I"⟩, 9), (⟨"ReckonBench$Interval", "outward", "(JJ)LReckonBench$Interval;"⟩, 3), (⟨"ReckonBench$Interval", "product", "(JJ)J"⟩, 3), (⟨"ReckonBench$Interval", "zeroIfNan", "(J)J"⟩, 3), (⟨"ReckonBench$Interval", "ofFour", "(JJJJ)LReckonBench$Interval;"⟩, 3), (⟨"ReckonBench$Interval", "quotient", "(JJ)J"⟩, 3)]
theorem lw_r1 : ∀ q ∈ lw_privs_1, lw_okq q := List.forall_mem_cons.mpr ⟨lw_p0, List.forall_mem_cons.mpr ⟨lw_p1, List.forall_mem_cons.mpr ⟨lw_p2, List.forall_mem_cons.mpr ⟨lw_p3, List.forall_mem_cons.mpr ⟨lw_p4, List.forall_mem_cons.mpr ⟨lw_p5, List.forall_mem_cons.mpr ⟨lw_p6, List.forall_mem_cons.mpr ⟨lw_p7, List.forall_mem_cons.mpr ⟨lw_p8, List.forall_mem_cons.mpr ⟨lw_p9, List.forall_mem_cons.mpr ⟨lw_p10, fun _ h => absurd h List.not_mem_nil⟩⟩⟩⟩⟩⟩⟩⟩⟩⟩⟩
def lw_privs : List (MethodName × Nat) := lw_privs_1
def lw_tbl : List Cond := k2_sels lw_privs ++ tables_1
theorem lw_privs_ok : ∀ q ∈ lw_privs, lw_okq q := lw_r1
/-! ===== BEGIN words of one list among another's, by their places ===== -/
theorem goodIn_r {big : List Cond} (ws : List Cond) (ps : List Nat) (hp : ws = ps.filterMap (fun i => big[i]?)) (h : ws.all goodWord = true) : GoodIn big ws := by
  intro w hw
  have h1 := List.all_eq_true.mp h w hw
  rw [hp] at hw
  obtain ⟨i, -, hi⟩ := List.mem_filterMap.mp hw
  have hm : w ∈ big := by first | exact List.mem_of_getElem? hi | exact List.getElem?_mem hi
  exact ⟨hm, good_of_word h1⟩
theorem goodIn_app {big a b : List Cond} (ha : GoodIn big a) (hb : GoodIn big b) : GoodIn big (a ++ b) := fun w h => (List.mem_append.mp h).elim (ha w) (hb w)
theorem goodIn_ca {big a b : List Cond} {c : Cond} (ha : GoodIn big (c :: a)) (hb : GoodIn big b) : GoodIn big (c :: (a ++ b)) := fun w h => (List.mem_cons.mp h).elim (fun e => ha w (List.mem_cons.mpr (Or.inl e))) (fun h => (List.mem_append.mp h).elim (fun h => ha w (List.mem_cons.mpr (Or.inr h))) (hb w))
theorem goodIn_sub {big ws : List Cond} (hm : ∀ w ∈ ws, w ∈ big) (h : ws.all goodWord = true) : GoodIn big ws := fun w hw => ⟨hm w hw, good_of_word (List.all_eq_true.mp h w hw)⟩
/-! ===== END ===== -/

/-! ===== BEGIN printed: names, fields, word lists, decode rows ===== -/
def RX0 : String := "ReckonBench$Interval"
def TX0 : u_T := fun k => match k with
  | 0 => ("ReckonBench$Interval", "kind", "LReckonBench$Kind;", true)
  | 1 => ("ReckonBench$Interval", "low", "J", true)
  | _ => ("ReckonBench$Interval", "high", "J", true)
def tyX0 : Nat → FieldType := fun k => match k with
  | 0 => .object "ReckonBench$Kind"
  | 1 => .long
  | _ => .long
abbrev wsX00 : List Cond := u_ws RX0 TX0 3
theorem nmX0 : ∀ a, a < 3 → ∀ b, b < 3 → a ≠ b → (TX0 a).2.1 ≠ (TX0 b).2.1 := by decide +kernel
theorem tyX0_ok : ∀ k, k < 3 → parseFieldDescriptor (TX0 k).2.2.1 = some (tyX0 k) := by decide +kernel
abbrev cX0_init : ByteArray := prog_2_method_1_code
def yX0_init : MethodName := ⟨RX0, "<init>", "(LReckonBench$Kind;JJ)V"⟩
abbrev cX0_stands : ByteArray := prog_2_method_2_code
def yX0_stands : MethodName := ⟨RX0, "stands", "()Z"⟩
abbrev cX0_hasZero : ByteArray := prog_2_method_3_code
def yX0_hasZero : MethodName := ⟨RX0, "hasZero", "()Z"⟩
abbrev cX0_everything : ByteArray := prog_2_method_4_code
def yX0_everything : MethodName := ⟨RX0, "everything", "()LReckonBench$Interval;"⟩
abbrev cX0_nothing : ByteArray := prog_2_method_5_code
def yX0_nothing : MethodName := ⟨RX0, "nothing", "()LReckonBench$Interval;"⟩
abbrev cX0_acted : ByteArray := prog_2_method_6_code
def yX0_acted : MethodName := ⟨RX0, "acted", "(ILReckonBench$Interval;)LReckonBench$Interval;"⟩
abbrev cX0_product : ByteArray := prog_2_method_7_code
def yX0_product : MethodName := ⟨RX0, "product", "(JJ)J"⟩
abbrev cX0_quotient : ByteArray := prog_2_method_8_code
def yX0_quotient : MethodName := ⟨RX0, "quotient", "(JJ)J"⟩
abbrev cX0_zeroIfNan : ByteArray := prog_2_method_9_code
def yX0_zeroIfNan : MethodName := ⟨RX0, "zeroIfNan", "(J)J"⟩
abbrev cX0_ofFour : ByteArray := prog_2_method_10_code
def yX0_ofFour : MethodName := ⟨RX0, "ofFour", "(JJJJ)LReckonBench$Interval;"⟩
abbrev cX0_outward : ByteArray := prog_2_method_11_code
def yX0_outward : MethodName := ⟨RX0, "outward", "(JJ)LReckonBench$Interval;"⟩
def RX1 : String := "ReckonBench$Kind"
def TX1 : u_T := fun k => match k with
  | _ => ("", "", "", false)
def tyX1 : Nat → FieldType := fun k => match k with
  | _ => .int
abbrev wsX10 : List Cond := u_ws RX1 TX1 0
theorem nmX1 : ∀ a, a < 0 → ∀ b, b < 0 → a ≠ b → (TX1 a).2.1 ≠ (TX1 b).2.1 := by decide +kernel
theorem tyX1_ok : ∀ k, k < 0 → parseFieldDescriptor (TX1 k).2.2.1 = some (tyX1 k) := by decide +kernel
abbrev cX1_cleaned : ByteArray := prog_3_method_4_code
def yX1_cleaned : MethodName := ⟨RX1, "cleaned", "(J)J"⟩
abbrev cX1_magnitude : ByteArray := prog_3_method_5_code
def yX1_magnitude : MethodName := ⟨RX1, "magnitude", "(J)J"⟩
abbrev cX1_isNegative : ByteArray := prog_3_method_6_code
def yX1_isNegative : MethodName := ⟨RX1, "isNegative", "(J)Z"⟩
abbrev cX1_isNan : ByteArray := prog_3_method_7_code
def yX1_isNan : MethodName := ⟨RX1, "isNan", "(J)Z"⟩
abbrev cX1_isInfinite : ByteArray := prog_3_method_8_code
def yX1_isInfinite : MethodName := ⟨RX1, "isInfinite", "(J)Z"⟩
abbrev cX1_signed : ByteArray := prog_3_method_9_code
def yX1_signed : MethodName := ⟨RX1, "signed", "(ZJ)J"⟩
abbrev cX1_opposite : ByteArray := prog_3_method_10_code
def yX1_opposite : MethodName := ⟨RX1, "opposite", "(J)J"⟩
abbrev cX1_one : ByteArray := prog_3_method_11_code
def yX1_one : MethodName := ⟨RX1, "one", "()J"⟩
abbrev cX1_sortOf : ByteArray := prog_3_method_12_code
def yX1_sortOf : MethodName := ⟨RX1, "sortOf", "(J)I"⟩
abbrev cX1_significand : ByteArray := prog_3_method_13_code
def yX1_significand : MethodName := ⟨RX1, "significand", "(J)J"⟩
abbrev cX1_exponent : ByteArray := prog_3_method_14_code
def yX1_exponent : MethodName := ⟨RX1, "exponent", "(J)I"⟩
abbrev cX1_exponentField : ByteArray := prog_3_method_15_code
def yX1_exponentField : MethodName := ⟨RX1, "exponentField", "(J)I"⟩
abbrev cX1_valueRank : ByteArray := prog_3_method_16_code
def yX1_valueRank : MethodName := ⟨RX1, "valueRank", "(J)J"⟩
abbrev cX1_totalRank : ByteArray := prog_3_method_17_code
def yX1_totalRank : MethodName := ⟨RX1, "totalRank", "(J)J"⟩
abbrev cX1_isBelow : ByteArray := prog_3_method_18_code
def yX1_isBelow : MethodName := ⟨RX1, "isBelow", "(JJ)Z"⟩
abbrev cX1_atMost : ByteArray := prog_3_method_19_code
def yX1_atMost : MethodName := ⟨RX1, "atMost", "(JJ)Z"⟩
abbrev cX1_relations : ByteArray := prog_3_method_20_code
def yX1_relations : MethodName := ⟨RX1, "relations", "(JJ)I"⟩
abbrev cX1_lesser : ByteArray := prog_3_method_21_code
def yX1_lesser : MethodName := ⟨RX1, "lesser", "(JJ)J"⟩
abbrev cX1_greater : ByteArray := prog_3_method_22_code
def yX1_greater : MethodName := ⟨RX1, "greater", "(JJ)J"⟩
abbrev cX1_stepped : ByteArray := prog_3_method_23_code
def yX1_stepped : MethodName := ⟨RX1, "stepped", "(JI)J"⟩
abbrev cX1_rounded : ByteArray := prog_3_method_24_code
def yX1_rounded : MethodName := ⟨RX1, "rounded", "(ZJI)J"⟩
abbrev cX1_withoutLast : ByteArray := prog_3_method_25_code
def yX1_withoutLast : MethodName := ⟨RX1, "withoutLast", "(JI)J"⟩
def RX2 : String := "ReckonBench$Reckoning"
def TX2 : u_T := fun k => match k with
  | _ => ("", "", "", false)
def tyX2 : Nat → FieldType := fun k => match k with
  | _ => .int
abbrev wsX20 : List Cond := u_ws RX2 TX2 0
theorem nmX2 : ∀ a, a < 0 → ∀ b, b < 0 → a ≠ b → (TX2 a).2.1 ≠ (TX2 b).2.1 := by decide +kernel
theorem tyX2_ok : ∀ k, k < 0 → parseFieldDescriptor (TX2 k).2.2.1 = some (tyX2 k) := by decide +kernel
abbrev cX2_acted : ByteArray := prog_4_method_2_code
def yX2_acted : MethodName := ⟨RX2, "acted", "(LReckonBench$Kind;IJJ)J"⟩
abbrev cX2_namesSecond : ByteArray := prog_4_method_3_code
def yX2_namesSecond : MethodName := ⟨RX2, "namesSecond", "(I)Z"⟩
abbrev cX2_turned : ByteArray := prog_4_method_5_code
def yX2_turned : MethodName := ⟨RX2, "turned", "(LReckonBench$Kind;JLReckonBench$Kind;)J"⟩
abbrev cX2_toWhole : ByteArray := prog_4_method_7_code
def yX2_toWhole : MethodName := ⟨RX2, "toWhole", "(LReckonBench$Kind;JI)J"⟩
abbrev cX2_minus : ByteArray := prog_4_method_8_code
def yX2_minus : MethodName := ⟨RX2, "minus", "(LReckonBench$Kind;JJ)J"⟩
abbrev cX2_plus : ByteArray := prog_4_method_9_code
def yX2_plus : MethodName := ⟨RX2, "plus", "(LReckonBench$Kind;JJ)J"⟩
abbrev cX2_plusLesser : ByteArray := prog_4_method_10_code
def yX2_plusLesser : MethodName := ⟨RX2, "plusLesser", "(LReckonBench$Kind;JJ)J"⟩
abbrev cX2_shiftedRight : ByteArray := prog_4_method_11_code
def yX2_shiftedRight : MethodName := ⟨RX2, "shiftedRight", "(JI)J"⟩
abbrev cX2_times : ByteArray := prog_4_method_12_code
def yX2_times : MethodName := ⟨RX2, "times", "(LReckonBench$Kind;JJ)J"⟩
abbrev cX2_productTop : ByteArray := prog_4_method_13_code
def yX2_productTop : MethodName := ⟨RX2, "productTop", "(JJ)J"⟩
abbrev cX2_over : ByteArray := prog_4_method_14_code
def yX2_over : MethodName := ⟨RX2, "over", "(LReckonBench$Kind;JJ)J"⟩
abbrev cX2_quotientOf : ByteArray := prog_4_method_15_code
def yX2_quotientOf : MethodName := ⟨RX2, "quotientOf", "(JJ)J"⟩
abbrev cX2_remainder : ByteArray := prog_4_method_16_code
def yX2_remainder : MethodName := ⟨RX2, "remainder", "(LReckonBench$Kind;JJ)J"⟩
def RX3 : String := "ReckonBench$Row"
def TX3 : u_T := fun k => match k with
  | 0 => ("ReckonBench$Row", "kind", "LReckonBench$Kind;", true)
  | _ => ("ReckonBench$Row", "numbers", "[J", true)
def tyX3 : Nat → FieldType := fun k => match k with
  | 0 => .object "ReckonBench$Kind"
  | _ => .array .long
abbrev wsX30 : List Cond := u_ws RX3 TX3 2
theorem nmX3 : ∀ a, a < 2 → ∀ b, b < 2 → a ≠ b → (TX3 a).2.1 ≠ (TX3 b).2.1 := by decide +kernel
theorem tyX3_ok : ∀ k, k < 2 → parseFieldDescriptor (TX3 k).2.2.1 = some (tyX3 k) := by decide +kernel
abbrev cX3_init : ByteArray := prog_5_method_1_code
def yX3_init : MethodName := ⟨RX3, "<init>", "(LReckonBench$Kind;I)V"⟩
abbrev cX3_has : ByteArray := prog_5_method_2_code
def yX3_has : MethodName := ⟨RX3, "has", "(I)Z"⟩
abbrev cX3_hasPair : ByteArray := prog_5_method_3_code
def yX3_hasPair : MethodName := ⟨RX3, "hasPair", "(I)Z"⟩
abbrev cX3_put : ByteArray := prog_5_method_4_code
def yX3_put : MethodName := ⟨RX3, "put", "(IJ)I"⟩
abbrev cX3_pair : ByteArray := prog_5_method_5_code
def yX3_pair : MethodName := ⟨RX3, "pair", "(I)LReckonBench$Interval;"⟩
abbrev cX3_putPair : ByteArray := prog_5_method_6_code
def yX3_putPair : MethodName := ⟨RX3, "putPair", "(ILReckonBench$Interval;)V"⟩
def RX4 : String := "ReckonBench$Sorter"
def TX4 : u_T := fun k => match k with
  | 0 => ("ReckonBench$Sorter", "before", "[J", true)
  | _ => ("ReckonBench$Sorter", "merged", "[J", true)
def tyX4 : Nat → FieldType := fun k => match k with
  | 0 => .array .long
  | _ => .array .long
abbrev wsX40 : List Cond := u_ws RX4 TX4 2
theorem nmX4 : ∀ a, a < 2 → ∀ b, b < 2 → a ≠ b → (TX4 a).2.1 ≠ (TX4 b).2.1 := by decide +kernel
theorem tyX4_ok : ∀ k, k < 2 → parseFieldDescriptor (TX4 k).2.2.1 = some (tyX4 k) := by decide +kernel
abbrev cX4_init : ByteArray := prog_6_method_1_code
def yX4_init : MethodName := ⟨RX4, "<init>", "()V"⟩
def RX5 : String := "ReckonBench$Sums"
def TX5 : u_T := fun k => match k with
  | _ => ("", "", "", false)
def tyX5 : Nat → FieldType := fun k => match k with
  | _ => .int
abbrev wsX50 : List Cond := u_ws RX5 TX5 0
theorem nmX5 : ∀ a, a < 0 → ∀ b, b < 0 → a ≠ b → (TX5 a).2.1 ≠ (TX5 b).2.1 := by decide +kernel
theorem tyX5_ok : ∀ k, k < 0 → parseFieldDescriptor (TX5 k).2.2.1 = some (tyX5 k) := by decide +kernel
def RX6 : String := "ReckonBench"
def TX6 : u_T := fun k => match k with
  | 0 => ("ReckonBench", "rows", "[LReckonBench$Row;", true)
  | 1 => ("ReckonBench", "sorter", "LReckonBench$Sorter;", true)
  | 2 => ("ReckonBench", "rowCount", "I", false)
  | 3 => ("ReckonBench", "numberCount", "I", false)
  | _ => ("ReckonBench", "reason", "I", false)
def tyX6 : Nat → FieldType := fun k => match k with
  | 0 => .array (.object "ReckonBench$Row")
  | 1 => .object "ReckonBench$Sorter"
  | 2 => .int
  | 3 => .int
  | _ => .int
abbrev wsX60 : List Cond := u_ws RX6 TX6 5
theorem nmX6 : ∀ a, a < 5 → ∀ b, b < 5 → a ≠ b → (TX6 a).2.1 ≠ (TX6 b).2.1 := by decide +kernel
theorem tyX6_ok : ∀ k, k < 5 → parseFieldDescriptor (TX6 k).2.2.1 = some (tyX6 k) := by decide +kernel
abbrev cX6_init : ByteArray := prog_1_method_1_code
def yX6_init : MethodName := ⟨RX6, "<init>", "()V"⟩
abbrev cX6_row : ByteArray := prog_1_method_2_code
def yX6_row : MethodName := ⟨RX6, "row", "(IZ)I"⟩
abbrev cX6_set : ByteArray := prog_1_method_3_code
def yX6_set : MethodName := ⟨RX6, "set", "(IIJ)I"⟩
abbrev cX6_get : ByteArray := prog_1_method_5_code
def yX6_get : MethodName := ⟨RX6, "get", "(II)J"⟩
abbrev cX6_compare : ByteArray := prog_1_method_7_code
def yX6_compare : MethodName := ⟨RX6, "compare", "(III)I"⟩
abbrev cX6_between : ByteArray := prog_1_method_8_code
def yX6_between : MethodName := ⟨RX6, "between", "(IIII)I"⟩
abbrev cX6_total : ByteArray := prog_1_method_9_code
def yX6_total : MethodName := ⟨RX6, "total", "(III)I"⟩
abbrev cX6_act : ByteArray := prog_1_method_11_code
def yX6_act : MethodName := ⟨RX6, "act", "(IIIII)I"⟩
abbrev cX6_interval : ByteArray := prog_1_method_17_code
def yX6_interval : MethodName := ⟨RX6, "interval", "(IIII)I"⟩
abbrev cX6_move : ByteArray := prog_1_method_18_code
def yX6_move : MethodName := ⟨RX6, "move", "(IIIIZ)I"⟩
abbrev cX6_rowAt : ByteArray := prog_1_method_20_code
def yX6_rowAt : MethodName := ⟨RX6, "rowAt", "(I)LReckonBench$Row;"⟩
abbrev cX6_refuse : ByteArray := prog_1_method_21_code
def yX6_refuse : MethodName := ⟨RX6, "refuse", "(I)I"⟩
abbrev cX6_refuseLong : ByteArray := prog_1_method_22_code
def yX6_refuseLong : MethodName := ⟨RX6, "refuseLong", "(I)J"⟩
abbrev cX6_answer : ByteArray := prog_1_method_23_code
def yX6_answer : MethodName := ⟨RX6, "answer", "(I)I"⟩
abbrev cX6_answerLong : ByteArray := prog_1_method_24_code
def yX6_answerLong : MethodName := ⟨RX6, "answerLong", "(J)J"⟩
def RX7 : String := "ReckonBenchModel"
def TX7 : u_T := fun k => match k with
  | _ => ("", "", "", false)
def tyX7 : Nat → FieldType := fun k => match k with
  | _ => .int
abbrev wsX70 : List Cond := u_ws RX7 TX7 0
theorem nmX7 : ∀ a, a < 0 → ∀ b, b < 0 → a ≠ b → (TX7 a).2.1 ≠ (TX7 b).2.1 := by decide +kernel
theorem tyX7_ok : ∀ k, k < 0 → parseFieldDescriptor (TX7 k).2.2.1 = some (tyX7 k) := by decide +kernel
def RJx29ce0 : String := "java/lang/Enum"
def TJx29ce0 : u_T := fun k => match k with
  | _ => ("", "", "", false)
def tyJx29ce0 : Nat → FieldType := fun k => match k with
  | _ => .int
abbrev wsJx29ce00 : List Cond := u_ws RJx29ce0 TJx29ce0 0
theorem nmJx29ce0 : ∀ a, a < 0 → ∀ b, b < 0 → a ≠ b → (TJx29ce0 a).2.1 ≠ (TJx29ce0 b).2.1 := by decide +kernel
theorem tyJx29ce0_ok : ∀ k, k < 0 → parseFieldDescriptor (TJx29ce0 k).2.2.1 = some (tyJx29ce0 k) := by decide +kernel
def RJ6 : String := "java/lang/Integer"
def TJ6 : u_T := fun k => match k with
  | _ => ("", "", "", false)
def tyJ6 : Nat → FieldType := fun k => match k with
  | _ => .int
abbrev wsJ60 : List Cond := u_ws RJ6 TJ6 0
theorem nmJ6 : ∀ a, a < 0 → ∀ b, b < 0 → a ≠ b → (TJ6 a).2.1 ≠ (TJ6 b).2.1 := by decide +kernel
theorem tyJ6_ok : ∀ k, k < 0 → parseFieldDescriptor (TJ6 k).2.2.1 = some (tyJ6 k) := by decide +kernel
abbrev cJ6_numberOfLeadingZeros_0f7a4 : ByteArray := prog_11_method_47_code
def yJ6_numberOfLeadingZeros_0f7a4 : MethodName := ⟨RJ6, "numberOfLeadingZeros", "(I)I"⟩
def RJ13 : String := "java/lang/Long"
def TJ13 : u_T := fun k => match k with
  | _ => ("", "", "", false)
def tyJ13 : Nat → FieldType := fun k => match k with
  | _ => .int
abbrev wsJ130 : List Cond := u_ws RJ13 TJ13 0
theorem nmJ13 : ∀ a, a < 0 → ∀ b, b < 0 → a ≠ b → (TJ13 a).2.1 ≠ (TJ13 b).2.1 := by decide +kernel
theorem tyJ13_ok : ∀ k, k < 0 → parseFieldDescriptor (TJ13 k).2.2.1 = some (tyJ13 k) := by decide +kernel
abbrev cJ13_numberOfLeadingZeros_95d88 : ByteArray := prog_12_method_48_code
def yJ13_numberOfLeadingZeros_95d88 : MethodName := ⟨RJ13, "numberOfLeadingZeros", "(J)I"⟩
def RJ9 : String := "java/lang/Math"
def TJ9 : u_T := fun k => match k with
  | _ => ("", "", "", false)
def tyJ9 : Nat → FieldType := fun k => match k with
  | _ => .int
abbrev wsJ90 : List Cond := u_ws RJ9 TJ9 0
theorem nmJ9 : ∀ a, a < 0 → ∀ b, b < 0 → a ≠ b → (TJ9 a).2.1 ≠ (TJ9 b).2.1 := by decide +kernel
theorem tyJ9_ok : ∀ k, k < 0 → parseFieldDescriptor (TJ9 k).2.2.1 = some (tyJ9 k) := by decide +kernel
abbrev cJ9_abs_067f4 : ByteArray := prog_13_method_61_code
def yJ9_abs_067f4 : MethodName := ⟨RJ9, "abs", "(J)J"⟩
abbrev cJ9_max_7cf53 : ByteArray := prog_13_method_65_code
def yJ9_max_7cf53 : MethodName := ⟨RJ9, "max", "(II)I"⟩
abbrev cJ9_max_f86c9 : ByteArray := prog_13_method_66_code
def yJ9_max_f86c9 : MethodName := ⟨RJ9, "max", "(JJ)J"⟩
abbrev cJ9_min_7cf53 : ByteArray := prog_13_method_69_code
def yJ9_min_7cf53 : MethodName := ⟨RJ9, "min", "(II)I"⟩
abbrev cJ9_min_f86c9 : ByteArray := prog_13_method_70_code
def yJ9_min_f86c9 : MethodName := ⟨RJ9, "min", "(JJ)J"⟩
def RL : String := "ReckonBenchLaw"
abbrev cL_cell : ByteArray := method_2_code
def yL_cell : MethodName := ⟨RL, "cell", "([II)I"⟩
abbrev cL_round : ByteArray := method_3_code
def yL_round : MethodName := ⟨RL, "round", "(I)I"⟩
abbrev cL_isNone : ByteArray := method_4_code
def yL_isNone : MethodName := ⟨RL, "isNone", "(LReckonBench;I)Z"⟩
abbrev cL_law : ByteArray := code
def yL_law : MethodName := ⟨RL, "law", "([I)Z"⟩
abbrev cL_isOrdered : ByteArray := method_6_code
def yL_isOrdered : MethodName := ⟨RL, "isOrdered", "(LReckonBench;ZZ)Z"⟩
abbrev cL_isReckoned : ByteArray := method_7_code
def yL_isReckoned : MethodName := ⟨RL, "isReckoned", "(LReckonBench;)Z"⟩
abbrev cL_isAbout : ByteArray := method_8_code
def yL_isAbout : MethodName := ⟨RL, "isAbout", "(LReckonBench;Z)Z"⟩
abbrev cL_isLeft : ByteArray := method_9_code
def yL_isLeft : MethodName := ⟨RL, "isLeft", "(LReckonBench;)Z"⟩
abbrev cL_isHeld : ByteArray := method_10_code
def yL_isHeld : MethodName := ⟨RL, "isHeld", "(LReckonBench;I)Z"⟩
def wsL_law_r1 : List Cond := [Cond.classLink RL 8 RX6, Cond.instantiable RX6 5, Cond.initialized RX6, Cond.constantLong RL 24 (4294967295), Cond.methodLink RL 13 yX6_init, Cond.instanceMethod yX6_init, Cond.code yX6_init cX6_init 1 none, Cond.methodLink RX6 3 objectInit, Cond.instanceMethod objectInit, Cond.code objectInit ⟨#[0xb1]⟩ 1 none, Cond.classLink RX6 9 RX3, Cond.fieldLink RX6 11 "ReckonBench" "rows" "[LReckonBench$Row;", Cond.classLink RX6 15 RX4, Cond.instantiable RX4 2, Cond.initialized RX4, Cond.fieldLink RX6 18 "ReckonBench" "sorter" "LReckonBench$Sorter;", Cond.fieldLink RX6 22 "ReckonBench" "rowCount" "I", Cond.fieldLink RX6 26 "ReckonBench" "numberCount" "I", Cond.fieldLink RX6 29 "ReckonBench" "reason" "I", Cond.methodLink RX6 17 yX4_init, Cond.instanceMethod yX4_init, Cond.code yX4_init cX4_init 1 none, Cond.methodLink RX4 3 objectInit, Cond.arrayClass .long]
def wsL_law_r2 : List Cond := [Cond.fieldLink RX4 9 "ReckonBench$Sorter" "before" "[J", Cond.fieldLink RX4 15 "ReckonBench$Sorter" "merged" "[J", Cond.methodLink RL 14 yL_cell, Cond.static yL_cell, Cond.initialized RL, Cond.code yL_cell cL_cell 2 (some .int), Cond.methodLink RL 20 yX6_row, Cond.instanceMethod yX6_row, Cond.selects RX6 yX6_row yX6_row, Cond.code yX6_row cX6_row 4 (some .int), Cond.instantiable RX3 2, Cond.initialized RX3, Cond.fieldLink RX6 36 "ReckonBench$Kind" "SINGLE" "LReckonBench$Kind;", Cond.fieldLink RX6 42 "ReckonBench$Kind" "DOUBLE" "LReckonBench$Kind;", Cond.methodLink RX6 32 yX6_refuse, Cond.instanceMethod yX6_refuse, Cond.selects RX6 yX6_refuse yX6_refuse, Cond.code yX6_refuse cX6_refuse 2 (some .int), Cond.methodLink RX6 45 yX3_init, Cond.instanceMethod yX3_init, Cond.code yX3_init cX3_init 3 none, Cond.methodLink RX3 3 objectInit, Cond.fieldLink RX3 9 "ReckonBench$Row" "kind" "LReckonBench$Kind;", Cond.fieldLink RX3 15 "ReckonBench$Row" "numbers" "[J"]
def wsL_law_r3 : List Cond := [Cond.methodLink RX6 48 yX6_answer, Cond.instanceMethod yX6_answer, Cond.selects RX6 yX6_answer yX6_answer, Cond.code yX6_answer cX6_answer 2 (some .int), Cond.methodLink RL 26 yX6_set, Cond.instanceMethod yX6_set, Cond.selects RX6 yX6_set yX6_set, Cond.code yX6_set cX6_set 6 (some .int), Cond.fieldLink RX6 59 "ReckonBench$Row" "kind" "LReckonBench$Kind;", Cond.methodLink RX6 51 yX6_rowAt, Cond.instanceMethod yX6_rowAt, Cond.selects RX6 yX6_rowAt yX6_rowAt, Cond.code yX6_rowAt cX6_rowAt 2 (some (.object "ReckonBench$Row")), Cond.methodLink RX6 55 yX3_has, Cond.instanceMethod yX3_has, Cond.selects RX3 yX3_has yX3_has, Cond.code yX3_has cX3_has 2 (some .boolean), Cond.methodLink RX6 62 yX1_cleaned, Cond.instanceMethod yX1_cleaned, Cond.selects RX1 yX1_cleaned yX1_cleaned, Cond.initialized RX1, Cond.code yX1_cleaned cX1_cleaned 5 (some .long), Cond.fieldLink RX1 39 "ReckonBench$Kind" "sign" "J", Cond.fieldLink RX1 46 "ReckonBench$Kind" "nan" "J"]
def wsL_law_r4 : List Cond := [Cond.methodLink RX1 49 yX1_isNan, Cond.instanceMethod yX1_isNan, Cond.selects RX1 yX1_isNan yX1_isNan, Cond.code yX1_isNan cX1_isNan 3 (some .boolean), Cond.fieldLink RX1 43 "ReckonBench$Kind" "infinite" "J", Cond.methodLink RX1 53 yX1_magnitude, Cond.instanceMethod yX1_magnitude, Cond.selects RX1 yX1_magnitude yX1_magnitude, Cond.code yX1_magnitude cX1_magnitude 3 (some .long), Cond.methodLink RX6 66 yX3_put, Cond.instanceMethod yX3_put, Cond.selects RX3 yX3_put yX3_put, Cond.code yX3_put cX3_put 4 (some .int), Cond.methodLink RX3 19 yX1_sortOf, Cond.instanceMethod yX1_sortOf, Cond.selects RX1 yX1_sortOf yX1_sortOf, Cond.code yX1_sortOf cX1_sortOf 6 (some .int), Cond.methodLink RX1 57 yX1_isNegative, Cond.instanceMethod yX1_isNegative, Cond.selects RX1 yX1_isNegative yX1_isNegative, Cond.code yX1_isNegative cX1_isNegative 3 (some .boolean), Cond.methodLink RL 30 yL_isOrdered, Cond.static yL_isOrdered, Cond.code yL_isOrdered cL_isOrdered 5 (some .boolean)]
def wsL_law_r5 : List Cond := [Cond.methodLink RL 7 yX6_compare, Cond.instanceMethod yX6_compare, Cond.selects RX6 yX6_compare yX6_compare, Cond.code yX6_compare cX6_compare 5 (some .int), Cond.fieldLink RX6 80 "ReckonBench$Row" "numbers" "[J", Cond.methodLink RX6 103 yX1_relations, Cond.instanceMethod yX1_relations, Cond.selects RX1 yX1_relations yX1_relations, Cond.code yX1_relations cX1_relations 5 (some .int), Cond.methodLink RX1 75 yX1_isBelow, Cond.instanceMethod yX1_isBelow, Cond.selects RX1 yX1_isBelow yX1_isBelow, Cond.code yX1_isBelow cX1_isBelow 5 (some .boolean), Cond.methodLink RX1 72 yX1_valueRank, Cond.instanceMethod yX1_valueRank, Cond.selects RX1 yX1_valueRank yX1_valueRank, Cond.code yX1_valueRank cX1_valueRank 3 (some .long), Cond.methodLink RX1 79 yX1_atMost, Cond.instanceMethod yX1_atMost, Cond.selects RX1 yX1_atMost yX1_atMost, Cond.code yX1_atMost cX1_atMost 5 (some .boolean), Cond.methodLink RL 49 yX6_total, Cond.instanceMethod yX6_total, Cond.selects RX6 yX6_total yX6_total]
def wsL_law_r6 : List Cond := [Cond.code yX6_total cX6_total 9 (some .int), Cond.methodLink RX6 114 yX1_totalRank, Cond.instanceMethod yX1_totalRank, Cond.selects RX1 yX1_totalRank yX1_totalRank, Cond.code yX1_totalRank cX1_totalRank 3 (some .long), Cond.constantLong RX1 70 (-1), Cond.methodLink RL 52 yL_round, Cond.static yL_round, Cond.code yL_round cL_round 1 (some .int), Cond.methodLink RL 56 yX6_between, Cond.instanceMethod yX6_between, Cond.selects RX6 yX6_between yX6_between, Cond.code yX6_between cX6_between 15 (some .int), Cond.methodLink RX6 107 yX1_atMost, Cond.methodLink RX6 111 yX1_isBelow, Cond.methodLink RL 60 yX6_get, Cond.instanceMethod yX6_get, Cond.selects RX6 yX6_get yX6_get, Cond.code yX6_get cX6_get 4 (some .long), Cond.methodLink RX6 76 yX6_refuseLong, Cond.instanceMethod yX6_refuseLong, Cond.selects RX6 yX6_refuseLong yX6_refuseLong, Cond.code yX6_refuseLong cX6_refuseLong 2 (some .long), Cond.methodLink RX6 84 yX6_answerLong]
def wsL_law_r7 : List Cond := [Cond.instanceMethod yX6_answerLong, Cond.selects RX6 yX6_answerLong yX6_answerLong, Cond.code yX6_answerLong cX6_answerLong 3 (some .long), Cond.methodLink RL 34 yL_isReckoned, Cond.static yL_isReckoned, Cond.code yL_isReckoned cL_isReckoned 3 (some .boolean), Cond.methodLink RL 64 yX6_act, Cond.instanceMethod yX6_act, Cond.selects RX6 yX6_act yX6_act, Cond.code yX6_act cX6_act 9 (some .int), Cond.methodLink RX6 121 yX2_acted, Cond.static yX2_acted, Cond.initialized RX2, Cond.code yX2_acted cX2_acted 6 (some .long), Cond.fieldLink RX2 21 "ReckonBench$Kind" "nan" "J", Cond.methodLink RX2 11 yX1_isNan, Cond.methodLink RX2 17 yX2_namesSecond, Cond.static yX2_namesSecond, Cond.code yX2_namesSecond cX2_namesSecond 1 (some .boolean), Cond.methodLink RX2 25 yX1_magnitude, Cond.methodLink RX2 29 yX1_greater, Cond.instanceMethod yX1_greater, Cond.selects RX1 yX1_greater yX1_greater, Cond.code yX1_greater cX1_greater 5 (some .long)]
def wsL_law_r8 : List Cond := [Cond.methodLink RX1 82 yX1_totalRank, Cond.methodLink RX2 33 yX1_lesser, Cond.instanceMethod yX1_lesser, Cond.selects RX1 yX1_lesser yX1_lesser, Cond.code yX1_lesser cX1_lesser 5 (some .long), Cond.methodLink RX2 36 yX2_toWhole, Cond.static yX2_toWhole, Cond.code yX2_toWhole cX2_toWhole 16 (some .long), Cond.methodLink RX2 87 Lib.Math.min.name, Cond.static Lib.Math.min.name, Cond.initialized "java/lang/Math", Cond.code Lib.Math.min.name Lib.Math.min.code 2 (some .int), Cond.methodLink RX2 83 yX1_exponent, Cond.instanceMethod yX1_exponent, Cond.selects RX1 yX1_exponent yX1_exponent, Cond.code yX1_exponent cX1_exponent 3 (some .int), Cond.methodLink RX1 64 Lib.Math.max.name, Cond.static Lib.Math.max.name, Cond.code Lib.Math.max.name Lib.Math.max.code 2 (some .int), Cond.fieldLink RX1 36 "ReckonBench$Kind" "lowest" "I", Cond.methodLink RX1 60 yX1_exponentField, Cond.instanceMethod yX1_exponentField, Cond.selects RX1 yX1_exponentField yX1_exponentField, Cond.code yX1_exponentField cX1_exponentField 3 (some .int)]
def wsL_law_r9 : List Cond := [Cond.fieldLink RX1 29 "ReckonBench$Kind" "fractionBits" "I", Cond.fieldLink RX1 33 "ReckonBench$Kind" "topField" "I", Cond.methodLink RX2 74 yX1_isInfinite, Cond.instanceMethod yX1_isInfinite, Cond.selects RX1 yX1_isInfinite yX1_isInfinite, Cond.code yX1_isInfinite cX1_isInfinite 3 (some .boolean), Cond.methodLink RX2 40 yX1_isNegative, Cond.methodLink RX2 80 yX1_significand, Cond.instanceMethod yX1_significand, Cond.selects RX1 yX1_significand yX1_significand, Cond.code yX1_significand cX1_significand 7 (some .long), Cond.methodLink RX2 70 yX1_rounded, Cond.instanceMethod yX1_rounded, Cond.selects RX1 yX1_rounded yX1_rounded, Cond.code yX1_rounded cX1_rounded 10 (some .long), Cond.methodLink RX1 91 yX1_signed, Cond.instanceMethod yX1_signed, Cond.selects RX1 yX1_signed yX1_signed, Cond.code yX1_signed cX1_signed 4 (some .long), Cond.methodLink RX1 98 yJ13_numberOfLeadingZeros_95d88, Cond.static yJ13_numberOfLeadingZeros_95d88, Cond.initialized RJ13, Cond.code yJ13_numberOfLeadingZeros_95d88 cJ13_numberOfLeadingZeros_95d88 3 (some .int), Cond.methodLink RJ13 308 yJ6_numberOfLeadingZeros_0f7a4]
def wsL_law_r10 : List Cond := [Cond.static yJ6_numberOfLeadingZeros_0f7a4, Cond.initialized RJ6, Cond.code yJ6_numberOfLeadingZeros_0f7a4 cJ6_numberOfLeadingZeros_0f7a4 2 (some .int), Cond.constant RJ6 264 (65536), Cond.methodLink RX1 103 yX1_withoutLast, Cond.static yX1_withoutLast, Cond.code yX1_withoutLast cX1_withoutLast 10 (some .long), Cond.methodLink RX2 43 yX1_one, Cond.instanceMethod yX1_one, Cond.selects RX1 yX1_one yX1_one, Cond.code yX1_one cX1_one 1 (some .long), Cond.methodLink RX2 47 yX1_signed, Cond.methodLink RX2 51 yX2_plus, Cond.static yX2_plus, Cond.code yX2_plus cX2_plus 6 (some .long), Cond.methodLink RX2 102 yX2_plusLesser, Cond.static yX2_plusLesser, Cond.code yX2_plusLesser cX2_plusLesser 16 (some .long), Cond.methodLink RX2 105 yX2_shiftedRight, Cond.static yX2_shiftedRight, Cond.code yX2_shiftedRight cX2_shiftedRight 5 (some .long), Cond.methodLink RX2 55 yX2_minus, Cond.static yX2_minus, Cond.code yX2_minus cX2_minus 5 (some .long)]
def wsL_law_r11 : List Cond := [Cond.methodLink RX2 67 yX1_opposite, Cond.instanceMethod yX1_opposite, Cond.selects RX1 yX1_opposite yX1_opposite, Cond.code yX1_opposite cX1_opposite 3 (some .long), Cond.methodLink RX2 58 yX2_times, Cond.static yX2_times, Cond.code yX2_times cX2_times 16 (some .long), Cond.fieldLink RX2 77 "ReckonBench$Kind" "infinite" "J", Cond.methodLink RX2 93 yJ13_numberOfLeadingZeros_95d88, Cond.methodLink RX2 109 yX2_productTop, Cond.static yX2_productTop, Cond.code yX2_productTop cX2_productTop 21 (some .long), Cond.constantLong RX2 112 (134217727), Cond.constantLong RX2 114 (131071), Cond.methodLink RX2 61 yX2_over, Cond.static yX2_over, Cond.code yX2_over cX2_over 15 (some .long), Cond.methodLink RX2 116 yX2_quotientOf, Cond.static yX2_quotientOf, Cond.code yX2_quotientOf cX2_quotientOf 11 (some .long), Cond.methodLink RX2 64 yX2_remainder, Cond.static yX2_remainder, Cond.code yX2_remainder cX2_remainder 11 (some .long), Cond.methodLink RL 38 yL_isAbout]
def wsL_law_r12 : List Cond := [Cond.static yL_isAbout, Cond.code yL_isAbout cL_isAbout 6 (some .boolean), Cond.methodLink RL 42 yL_isLeft, Cond.static yL_isLeft, Cond.code yL_isLeft cL_isLeft 3 (some .boolean), Cond.methodLink RL 45 yL_isHeld, Cond.static yL_isHeld, Cond.code yL_isHeld cL_isHeld 5 (some .boolean), Cond.methodLink RL 68 yX6_move, Cond.instanceMethod yX6_move, Cond.selects RX6 yX6_move yX6_move, Cond.code yX6_move cX6_move 8 (some .int), Cond.methodLink RX6 190 yX2_turned, Cond.static yX2_turned, Cond.code yX2_turned cX2_turned 5 (some .long), Cond.methodLink RL 72 yL_isNone, Cond.static yL_isNone, Cond.code yL_isNone cL_isNone 2 (some .boolean), Cond.methodLink RL 75 yX6_interval, Cond.instanceMethod yX6_interval, Cond.selects RX6 yX6_interval yX6_interval, Cond.code yX6_interval cX6_interval 9 (some .int), Cond.methodLink RX6 161 yX3_hasPair, Cond.instanceMethod yX3_hasPair]
def wsL_law_r13 : List Cond := [Cond.selects RX3 yX3_hasPair yX3_hasPair, Cond.code yX3_hasPair cX3_hasPair 2 (some .boolean), Cond.methodLink RX6 166 yX3_pair, Cond.instanceMethod yX3_pair, Cond.selects RX3 yX3_pair yX3_pair, Cond.code yX3_pair cX3_pair 2 (some (.object "ReckonBench$Interval")), Cond.classLink RX3 25 RX0, Cond.instantiable RX0 3, Cond.initialized RX0, Cond.methodLink RX3 27 yX0_init, Cond.instanceMethod yX0_init, Cond.code yX0_init cX0_init 6 none, Cond.methodLink RX0 3 objectInit, Cond.fieldLink RX0 9 "ReckonBench$Interval" "kind" "LReckonBench$Kind;", Cond.fieldLink RX0 13 "ReckonBench$Interval" "low" "J", Cond.fieldLink RX0 17 "ReckonBench$Interval" "high" "J", Cond.methodLink RX6 170 yX0_stands, Cond.instanceMethod yX0_stands, Cond.selects RX0 yX0_stands yX0_stands, Cond.code yX0_stands cX0_stands 1 (some .boolean), Cond.methodLink RX0 20 yX1_atMost, Cond.methodLink RX6 173 yX0_hasZero, Cond.instanceMethod yX0_hasZero, Cond.selects RX0 yX0_hasZero yX0_hasZero]
def wsL_law_r14 : List Cond := [Cond.code yX0_hasZero cX0_hasZero 1 (some .boolean), Cond.methodLink RX6 176 yX0_everything, Cond.instanceMethod yX0_everything, Cond.selects RX0 yX0_everything yX0_everything, Cond.code yX0_everything cX0_everything 1 (some (.object "ReckonBench$Interval")), Cond.classLink RX0 1 RX0, Cond.fieldLink RX0 26 "ReckonBench$Kind" "infinite" "J", Cond.methodLink RX0 29 yX1_signed, Cond.methodLink RX0 33 yX0_init, Cond.methodLink RX6 180 yX3_putPair, Cond.instanceMethod yX3_putPair, Cond.selects RX3 yX3_putPair yX3_putPair, Cond.code yX3_putPair cX3_putPair 3 none, Cond.fieldLink RX3 30 "ReckonBench$Interval" "low" "J", Cond.fieldLink RX3 34 "ReckonBench$Interval" "high" "J", Cond.methodLink RX6 184 yX0_acted, Cond.instanceMethod yX0_acted, Cond.selects RX0 yX0_acted yX0_acted, Cond.code yX0_acted cX0_acted 3 (some (.object "ReckonBench$Interval")), Cond.methodLink RX0 39 yX2_plus, Cond.methodLink RX0 45 yX0_outward, Cond.instanceMethod yX0_outward, Cond.selects RX0 yX0_outward yX0_outward, Cond.code yX0_outward cX0_outward 9 (some (.object "ReckonBench$Interval"))]
def wsL_law_r15 : List Cond := [Cond.methodLink RX0 79 yX1_isNan, Cond.methodLink RX0 83 yX1_stepped, Cond.instanceMethod yX1_stepped, Cond.selects RX1 yX1_stepped yX1_stepped, Cond.code yX1_stepped cX1_stepped 6 (some .long), Cond.methodLink RX1 85 Lib.MathLoose.min_long.x, Cond.static Lib.MathLoose.min_long.x, Cond.code Lib.MathLoose.min_long.x Lib.MathLoose.min_long.code 4 (some .long), Cond.methodLink RX1 89 Lib.MathLoose.max_long.x, Cond.static Lib.MathLoose.max_long.x, Cond.code Lib.MathLoose.max_long.x Lib.MathLoose.max_long.code 4 (some .long), Cond.methodLink RX1 95 Lib.MathLoose.abs_long.x, Cond.static Lib.MathLoose.abs_long.x, Cond.code Lib.MathLoose.abs_long.x Lib.MathLoose.abs_long.code 2 (some .long), Cond.methodLink RX0 49 yX2_minus, Cond.methodLink RX0 52 yX0_product, Cond.instanceMethod yX0_product, Cond.selects RX0 yX0_product yX0_product, Cond.code yX0_product cX0_product 5 (some .long), Cond.methodLink RX0 69 yX2_times, Cond.methodLink RX0 72 yX0_zeroIfNan, Cond.instanceMethod yX0_zeroIfNan, Cond.selects RX0 yX0_zeroIfNan yX0_zeroIfNan, Cond.code yX0_zeroIfNan cX0_zeroIfNan 3 (some .long)]
def wsL_law_r16 : List Cond := [Cond.methodLink RX0 56 yX0_ofFour, Cond.instanceMethod yX0_ofFour, Cond.selects RX0 yX0_ofFour yX0_ofFour, Cond.code yX0_ofFour cX0_ofFour 9 (some (.object "ReckonBench$Interval")), Cond.methodLink RX0 63 yX1_lesser, Cond.methodLink RX0 66 yX1_greater, Cond.methodLink RX0 60 yX0_quotient, Cond.instanceMethod yX0_quotient, Cond.selects RX0 yX0_quotient yX0_quotient, Cond.code yX0_quotient cX0_quotient 5 (some .long), Cond.methodLink RX0 76 yX2_over, Cond.methodLink RX6 187 yX0_nothing, Cond.instanceMethod yX0_nothing, Cond.selects RX0 yX0_nothing yX0_nothing, Cond.code yX0_nothing cX0_nothing 1 (some (.object "ReckonBench$Interval")), Cond.fieldLink RX0 36 "ReckonBench$Kind" "nan" "J"]
set_option maxRecDepth 20000 in

/-- every word that any method of this claim needs -/
def zall : List Cond := wsL_law_r1 ++ (wsL_law_r2 ++ (wsL_law_r3 ++ (wsL_law_r4 ++ (wsL_law_r5 ++ (wsL_law_r6 ++ (wsL_law_r7 ++ (wsL_law_r8 ++ (wsL_law_r9 ++ (wsL_law_r10 ++ (wsL_law_r11 ++ (wsL_law_r12 ++ (wsL_law_r13 ++ (wsL_law_r14 ++ (wsL_law_r15 ++ (wsL_law_r16 ++ (wsX00 ++ (wsX30 ++ (wsX40 ++ (wsX60)))))))))))))))))))
theorem zin__r1 : ∀ w ∈ wsL_law_r1, w ∈ zall := fun w h => List.mem_append_left _ h
theorem zin__r2 : ∀ w ∈ wsL_law_r2, w ∈ zall := fun w h => List.mem_append_right _ (List.mem_append_left _ h)
theorem zin__r3 : ∀ w ∈ wsL_law_r3, w ∈ zall := fun w h => List.mem_append_right _ (List.mem_append_right _ (List.mem_append_left _ h))
theorem zin__r4 : ∀ w ∈ wsL_law_r4, w ∈ zall := fun w h => List.mem_append_right _ (List.mem_append_right _ (List.mem_append_right _ (List.mem_append_left _ h)))
theorem zin__r5 : ∀ w ∈ wsL_law_r5, w ∈ zall := fun w h => List.mem_append_right _ (List.mem_append_right _ (List.mem_append_right _ (List.mem_append_right _ (List.mem_append_left _ h))))
theorem zin__r6 : ∀ w ∈ wsL_law_r6, w ∈ zall := fun w h => List.mem_append_right _ (List.mem_append_right _ (List.mem_append_right _ (List.mem_append_right _ (List.mem_append_right _ (List.mem_append_left _ h)))))
theorem zin__r7 : ∀ w ∈ wsL_law_r7, w ∈ zall := fun w h => List.mem_append_right _ (List.mem_append_right _ (List.mem_append_right _ (List.mem_append_right _ (List.mem_append_right _ (List.mem_append_right _ (List.mem_append_left _ h))))))
theorem zin__r8 : ∀ w ∈ wsL_law_r8, w ∈ zall := fun w h => List.mem_append_right _ (List.mem_append_right _ (List.mem_append_right _ (List.mem_append_right _ (List.mem_append_right _ (List.mem_append_right _ (List.mem_append_right _ (List.mem_append_left _ h)))))))
theorem zin__r9 : ∀ w ∈ wsL_law_r9, w ∈ zall := fun w h => List.mem_append_right _ (List.mem_append_right _ (List.mem_append_right _ (List.mem_append_right _ (List.mem_append_right _ (List.mem_append_right _ (List.mem_append_right _ (List.mem_append_right _ (List.mem_append_left _ h))))))))
theorem zin__r10 : ∀ w ∈ wsL_law_r10, w ∈ zall := fun w h => List.mem_append_right _ (List.mem_append_right _ (List.mem_append_right _ (List.mem_append_right _ (List.mem_append_right _ (List.mem_append_right _ (List.mem_append_right _ (List.mem_append_right _ (List.mem_append_right _ (List.mem_append_left _ h)))))))))
theorem zin__r11 : ∀ w ∈ wsL_law_r11, w ∈ zall := fun w h => List.mem_append_right _ (List.mem_append_right _ (List.mem_append_right _ (List.mem_append_right _ (List.mem_append_right _ (List.mem_append_right _ (List.mem_append_right _ (List.mem_append_right _ (List.mem_append_right _ (List.mem_append_right _ (List.mem_append_left _ h))))))))))
theorem zin__r12 : ∀ w ∈ wsL_law_r12, w ∈ zall := fun w h => List.mem_append_right _ (List.mem_append_right _ (List.mem_append_right _ (List.mem_append_right _ (List.mem_append_right _ (List.mem_append_right _ (List.mem_append_right _ (List.mem_append_right _ (List.mem_append_right _ (List.mem_append_right _ (List.mem_append_right _ (List.mem_append_left _ h)))))))))))
theorem zin__r13 : ∀ w ∈ wsL_law_r13, w ∈ zall := fun w h => List.mem_append_right _ (List.mem_append_right _ (List.mem_append_right _ (List.mem_append_right _ (List.mem_append_right _ (List.mem_append_right _ (List.mem_append_right _ (List.mem_append_right _ (List.mem_append_right _ (List.mem_append_right _ (List.mem_append_right _ (List.mem_append_right _ (List.mem_append_left _ h))))))))))))
theorem zin__r14 : ∀ w ∈ wsL_law_r14, w ∈ zall := fun w h => List.mem_append_right _ (List.mem_append_right _ (List.mem_append_right _ (List.mem_append_right _ (List.mem_append_right _ (List.mem_append_right _ (List.mem_append_right _ (List.mem_append_right _ (List.mem_append_right _ (List.mem_append_right _ (List.mem_append_right _ (List.mem_append_right _ (List.mem_append_right _ (List.mem_append_left _ h)))))))))))))
theorem zin__r15 : ∀ w ∈ wsL_law_r15, w ∈ zall := fun w h => List.mem_append_right _ (List.mem_append_right _ (List.mem_append_right _ (List.mem_append_right _ (List.mem_append_right _ (List.mem_append_right _ (List.mem_append_right _ (List.mem_append_right _ (List.mem_append_right _ (List.mem_append_right _ (List.mem_append_right _ (List.mem_append_right _ (List.mem_append_right _ (List.mem_append_right _ (List.mem_append_left _ h))))))))))))))
theorem zin__r16 : ∀ w ∈ wsL_law_r16, w ∈ zall := fun w h => List.mem_append_right _ (List.mem_append_right _ (List.mem_append_right _ (List.mem_append_right _ (List.mem_append_right _ (List.mem_append_right _ (List.mem_append_right _ (List.mem_append_right _ (List.mem_append_right _ (List.mem_append_right _ (List.mem_append_right _ (List.mem_append_right _ (List.mem_append_right _ (List.mem_append_right _ (List.mem_append_right _ (List.mem_append_left _ h)))))))))))))))
theorem zin_X0 : ∀ w ∈ wsX00, w ∈ zall := fun w h => List.mem_append_right _ (List.mem_append_right _ (List.mem_append_right _ (List.mem_append_right _ (List.mem_append_right _ (List.mem_append_right _ (List.mem_append_right _ (List.mem_append_right _ (List.mem_append_right _ (List.mem_append_right _ (List.mem_append_right _ (List.mem_append_right _ (List.mem_append_right _ (List.mem_append_right _ (List.mem_append_right _ (List.mem_append_right _ (List.mem_append_left _ h))))))))))))))))
theorem zin_X3 : ∀ w ∈ wsX30, w ∈ zall := fun w h => List.mem_append_right _ (List.mem_append_right _ (List.mem_append_right _ (List.mem_append_right _ (List.mem_append_right _ (List.mem_append_right _ (List.mem_append_right _ (List.mem_append_right _ (List.mem_append_right _ (List.mem_append_right _ (List.mem_append_right _ (List.mem_append_right _ (List.mem_append_right _ (List.mem_append_right _ (List.mem_append_right _ (List.mem_append_right _ (List.mem_append_right _ (List.mem_append_left _ h)))))))))))))))))
theorem zin_X4 : ∀ w ∈ wsX40, w ∈ zall := fun w h => List.mem_append_right _ (List.mem_append_right _ (List.mem_append_right _ (List.mem_append_right _ (List.mem_append_right _ (List.mem_append_right _ (List.mem_append_right _ (List.mem_append_right _ (List.mem_append_right _ (List.mem_append_right _ (List.mem_append_right _ (List.mem_append_right _ (List.mem_append_right _ (List.mem_append_right _ (List.mem_append_right _ (List.mem_append_right _ (List.mem_append_right _ (List.mem_append_right _ (List.mem_append_left _ h))))))))))))))))))
theorem zin_X6 : ∀ w ∈ wsX60, w ∈ zall := fun w h => List.mem_append_right _ (List.mem_append_right _ (List.mem_append_right _ (List.mem_append_right _ (List.mem_append_right _ (List.mem_append_right _ (List.mem_append_right _ (List.mem_append_right _ (List.mem_append_right _ (List.mem_append_right _ (List.mem_append_right _ (List.mem_append_right _ (List.mem_append_right _ (List.mem_append_right _ (List.mem_append_right _ (List.mem_append_right _ (List.mem_append_right _ (List.mem_append_right _ (List.mem_append_right _ h))))))))))))))))))
theorem zgd__r1 : wsL_law_r1.all goodWord = true := by decide +kernel
theorem zgd__r2 : wsL_law_r2.all goodWord = true := by decide +kernel
theorem zgd__r3 : wsL_law_r3.all goodWord = true := by decide +kernel
theorem zgd__r4 : wsL_law_r4.all goodWord = true := by decide +kernel
theorem zgd__r5 : wsL_law_r5.all goodWord = true := by decide +kernel
theorem zgd__r6 : wsL_law_r6.all goodWord = true := by decide +kernel
theorem zgd__r7 : wsL_law_r7.all goodWord = true := by decide +kernel
theorem zgd__r8 : wsL_law_r8.all goodWord = true := by decide +kernel
theorem zgd__r9 : wsL_law_r9.all goodWord = true := by decide +kernel
theorem zgd__r10 : wsL_law_r10.all goodWord = true := by decide +kernel
theorem zgd__r11 : wsL_law_r11.all goodWord = true := by decide +kernel
theorem zgd__r12 : wsL_law_r12.all goodWord = true := by decide +kernel
theorem zgd__r13 : wsL_law_r13.all goodWord = true := by decide +kernel
theorem zgd__r14 : wsL_law_r14.all goodWord = true := by decide +kernel
theorem zgd__r15 : wsL_law_r15.all goodWord = true := by decide +kernel
theorem zgd__r16 : wsL_law_r16.all goodWord = true := by decide +kernel
theorem zgd_X0 : wsX00.all goodWord = true := by decide +kernel
theorem zgd_X3 : wsX30.all goodWord = true := by decide +kernel
theorem zgd_X4 : wsX40.all goodWord = true := by decide +kernel
theorem zgd_X6 : wsX60.all goodWord = true := by decide +kernel
theorem zgood : ∀ w ∈ zall, goodWord w = true := by
  intro w h
  rcases List.mem_append.mp h with h | h
  · exact List.all_eq_true.mp zgd__r1 w h
  rcases List.mem_append.mp h with h | h
  · exact List.all_eq_true.mp zgd__r2 w h
  rcases List.mem_append.mp h with h | h
  · exact List.all_eq_true.mp zgd__r3 w h
  rcases List.mem_append.mp h with h | h
  · exact List.all_eq_true.mp zgd__r4 w h
  rcases List.mem_append.mp h with h | h
  · exact List.all_eq_true.mp zgd__r5 w h
  rcases List.mem_append.mp h with h | h
  · exact List.all_eq_true.mp zgd__r6 w h
  rcases List.mem_append.mp h with h | h
  · exact List.all_eq_true.mp zgd__r7 w h
  rcases List.mem_append.mp h with h | h
  · exact List.all_eq_true.mp zgd__r8 w h
  rcases List.mem_append.mp h with h | h
  · exact List.all_eq_true.mp zgd__r9 w h
  rcases List.mem_append.mp h with h | h
  · exact List.all_eq_true.mp zgd__r10 w h
  rcases List.mem_append.mp h with h | h
  · exact List.all_eq_true.mp zgd__r11 w h
  rcases List.mem_append.mp h with h | h
  · exact List.all_eq_true.mp zgd__r12 w h
  rcases List.mem_append.mp h with h | h
  · exact List.all_eq_true.mp zgd__r13 w h
  rcases List.mem_append.mp h with h | h
  · exact List.all_eq_true.mp zgd__r14 w h
  rcases List.mem_append.mp h with h | h
  · exact List.all_eq_true.mp zgd__r15 w h
  rcases List.mem_append.mp h with h | h
  · exact List.all_eq_true.mp zgd__r16 w h
  rcases List.mem_append.mp h with h | h
  · exact List.all_eq_true.mp zgd_X0 w h
  rcases List.mem_append.mp h with h | h
  · exact List.all_eq_true.mp zgd_X3 w h
  rcases List.mem_append.mp h with h | h
  · exact List.all_eq_true.mp zgd_X4 w h
  exact List.all_eq_true.mp zgd_X6 w h
def MWv (C : String) (y : MethodName) (cd : Cond) : Prop := Cond.instanceMethod y ∈ zall ∧ Cond.selects C y y ∈ zall ∧ Cond.initialized C ∈ zall ∧ cd ∈ zall
def MWs (y : MethodName) (cd : Cond) : Prop := Cond.static y ∈ zall ∧ Cond.initialized y.cls ∈ zall ∧ cd ∈ zall
theorem gV {own : String} {idx : Nat} {C : String} {y : MethodName} {cd : Cond} (h : MWv C y cd) (hl : Cond.methodLink own idx y ∈ zall) : GoodIn zall (wsV own idx C y (cd :: zall)) := by
  intro w hw
  have hm : w ∈ zall := by
    unfold wsV at hw
    rcases List.mem_append.mp hw with h1 | h1
    · simp only [List.mem_cons, List.not_mem_nil, or_false] at h1
      rcases h1 with rfl | rfl | rfl | rfl
      · exact hl
      · exact h.1
      · exact h.2.1
      · exact h.2.2.1
    · rcases List.mem_cons.mp h1 with h2 | h2
      · rw [h2]; exact h.2.2.2
      · exact h2
  exact ⟨hm, good_of_word (zgood w hm)⟩
theorem gS {own : String} {idx : Nat} {y : MethodName} {cd : Cond} (h : MWs y cd) (hl : Cond.methodLink own idx y ∈ zall) : GoodIn zall (va_wsS own idx y (cd :: zall)) := by
  intro w hw
  have hm : w ∈ zall := by
    unfold va_wsS at hw
    rcases List.mem_append.mp hw with h1 | h1
    · simp only [List.mem_cons, List.not_mem_nil, or_false] at h1
      rcases h1 with rfl | rfl | rfl
      · exact hl
      · exact h.1
      · exact h.2.1
    · rcases List.mem_cons.mp h1 with h2 | h2
      · rw [h2]; exact h.2.2
      · exact h2
  exact ⟨hm, good_of_word (zgood w hm)⟩
theorem gI {cd : Cond} (h : cd ∈ zall) : GoodIn zall (cd :: zall) := by
  intro w hw
  have hm : w ∈ zall := by
    rcases List.mem_cons.mp hw with h2 | h2
    · rw [h2]; exact h
    · exact h2
  exact ⟨hm, good_of_word (zgood w hm)⟩
