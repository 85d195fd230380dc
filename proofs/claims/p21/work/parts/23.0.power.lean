def f_X7_power_1 (k : Nat) (q7 : Int32) (q8 : Int64) (rec_49 : Int32 → Int64 → Int32) : Int32 := if (jlshr q8 (kfb k)) = (0 : Int64) then (rec_49 (q7 + (-1 : Int32)) (jlshl q8 (1 : Int32))) else q7
def f_X7_power_L49 (k : Nat) : Nat → Int32 → Int64 → Int32
  | 0, _, _ => 0
  | n + 1, q7, q8 => (f_X7_power_1 k q7 q8 (f_X7_power_L49 k n))
def f_X7_power_3 (k : Nat) (v4_1 : Int64) (v6_2 : Int32) : Int32 := if v6_2 ≤ 0 then (f_X7_power_L49 k 64 (klow k) v4_1) else (((klow k) + v6_2) - (1 : Int32))
def f_X7_power_4 (k : Nat) (v4_1 : Int64) : Int32 := (f_X7_power_3 k v4_1 (((jlshr v4_1 (kfb k))).toInt32))
def f_X7_power (k : Nat) (x1 : Int64) : Int32 := (f_X7_power_4 k (f_X7_unsigned k x1))
def f_X7_mantissa_1 (v6_2 : Int64) (q8 : Int64) (rec_41 : Int64 → Int64) : Int64 := if v6_2 ≤ q8 then q8 else (rec_41 (jlshl q8 (1 : Int32)))
def f_X7_mantissa_L41 (v6_2 : Int64) : Nat → Int64 → Int64
  | 0, _ => 0
  | n + 1, q8 => (f_X7_mantissa_1 v6_2 q8 (f_X7_mantissa_L41 v6_2 n))
def f_X7_mantissa_3 (v4_1 : Int64) (v6_2 : Int64) : Int64 := if v4_1 < v6_2 then (f_X7_mantissa_L41 v6_2 64 v4_1) else ((v4_1 &&& (v6_2 - (1 : Int64))) ||| v6_2)
def f_X7_mantissa (k : Nat) (x1 : Int64) : Int64 := (f_X7_mantissa_3 (f_X7_unsigned k x1) (jlshl (1 : Int64) (kfb k)))
def f_X7_round_1 (k : Nat) (x1 : Int32) (v12_5 : Int64) : Int64 := if v12_5 ≤ (kinf k) then (f_X7_signed k v12_5 x1) else (f_X7_signed k (kinf k) x1)
def f_X7_round_2 (k : Nat) (x1 : Int32) (v8_2 : Int32) (v10_4 : Int64) : Int64 := (f_X7_round_1 k x1 ((jlshl (((v8_2 - (klow k))).toInt64) (kfb k)) + v10_4))
def f_X7_round_3 (k : Nat) (x1 : Int32) (v8_2 : Int32) (w_7 : Int64) : Int64 := (f_X7_round_2 k x1 v8_2 (w_7 + (1 : Int64)))
def f_X7_round_4 (k : Nat) (x1 : Int32) (v8_2 : Int32) (w_7 : Int64) : Int64 := if (w_7 &&& (1 : Int64)) = (1 : Int64) then (f_X7_round_3 k x1 v8_2 w_7) else (f_X7_round_2 k x1 v8_2 w_7)
def f_X7_round_5 (k : Nat) (x1 : Int32) (x4 : Int32) (v8_2 : Int32) (w_7 : Int64) : Int64 := if x4 = 0 then (f_X7_round_4 k x1 v8_2 w_7) else (f_X7_round_3 k x1 v8_2 w_7)
def f_X7_round_6 (k : Nat) (x1 : Int32) (x4 : Int32) (v8_2 : Int32) (w_7 : Int64) (w_8 : Int64) (v14_9 : Int64) : Int64 := if w_8 = v14_9 then (f_X7_round_5 k x1 x4 v8_2 w_7) else (f_X7_round_2 k x1 v8_2 w_7)
def f_X7_round_7 (k : Nat) (x1 : Int32) (x4 : Int32) (v8_2 : Int32) (w_7 : Int64) (w_8 : Int64) (v14_9 : Int64) : Int64 := if v14_9 < w_8 then (f_X7_round_3 k x1 v8_2 w_7) else (f_X7_round_6 k x1 x4 v8_2 w_7 w_8 v14_9)
def f_X7_round_8 (k : Nat) (x1 : Int32) (x4 : Int32) (v8_2 : Int32) (v9_3 : Int32) (w_7 : Int64) (w_8 : Int64) : Int64 := (f_X7_round_7 k x1 x4 v8_2 w_7 w_8 (jlshl (1 : Int64) (v9_3 - (1 : Int32))))
def f_X7_round_9 (k : Nat) (x1 : Int32) (x2 : Int64) (x4 : Int32) (v8_2 : Int32) (v9_3 : Int32) (w_7 : Int64) : Int64 := if v9_3 = (63 : Int32) then (f_X7_round_8 k x1 x4 v8_2 v9_3 w_7 x2) else (f_X7_round_8 k x1 x4 v8_2 v9_3 w_7 (x2 - (jlshl w_7 v9_3)))
def f_X7_round_10 (k : Nat) (x1 : Int32) (x2 : Int64) (x4 : Int32) (v8_2 : Int32) (v9_3 : Int32) : Int64 := if v9_3 = (63 : Int32) then (f_X7_round_9 k x1 x2 x4 v8_2 v9_3 (0 : Int64)) else (f_X7_round_9 k x1 x2 x4 v8_2 v9_3 (jlshr x2 v9_3))
def f_X7_round_11 (k : Nat) (x1 : Int32) (x2 : Int64) (x4 : Int32) (v8_2 : Int32) (v9_3 : Int32) : Int64 := if (63 : Int32) < v9_3 then (f_X7_round_2 k x1 v8_2 (0 : Int64)) else (f_X7_round_10 k x1 x2 x4 v8_2 v9_3)
def f_X7_round_12 (k : Nat) (x1 : Int32) (x2 : Int64) (x4 : Int32) (v8_2 : Int32) (v9_3 : Int32) : Int64 := if 0 < v9_3 then (f_X7_round_11 k x1 x2 x4 v8_2 v9_3) else (f_X7_round_2 k x1 v8_2 (jlshl x2 (-v9_3)))
def f_X7_round_13 (k : Nat) (x1 : Int32) (x2 : Int64) (x3 : Int32) (x4 : Int32) (v8_2 : Int32) : Int64 := if (v8_2 - (klow k)) < ((ktop k) - (1 : Int32)) then (f_X7_round_12 k x1 x2 x4 v8_2 (v8_2 - x3)) else (f_X7_signed k (kinf k) x1)
def f_X7_round_14 (k : Nat) (x1 : Int32) (x2 : Int64) (x3 : Int32) (x4 : Int32) (v8_1 : Int32) : Int64 := if (klow k) ≤ v8_1 then (f_X7_round_13 k x1 x2 x3 x4 v8_1) else (f_X7_round_13 k x1 x2 x3 x4 (klow k))
def f_X7_round_15 (k : Nat) (x1 : Int32) (x2 : Int64) (x3 : Int32) (x4 : Int32) (q7 : Int32) : Int64 := (f_X7_round_14 k x1 x2 x3 x4 (((x3 + q7) - (kfb k)) - (1 : Int32)))
def f_X7_round_16 (k : Nat) (x1 : Int32) (x2 : Int64) (x3 : Int32) (x4 : Int32) (q7 : Int32) (rec_3 : Int32 → Int64) : Int64 := if (jlshr x2 q7) ≤ (0 : Int64) then (f_X7_round_15 k x1 x2 x3 x4 q7) else (rec_3 (q7 + (1 : Int32)))
def f_X7_round_17 (k : Nat) (x1 : Int32) (x2 : Int64) (x3 : Int32) (x4 : Int32) (q7 : Int32) (rec_3 : Int32 → Int64) : Int64 := if (63 : Int32) ≤ q7 then (f_X7_round_15 k x1 x2 x3 x4 q7) else (f_X7_round_16 k x1 x2 x3 x4 q7 rec_3)
def f_X7_round_L3 (k : Nat) (x1 : Int32) (x2 : Int64) (x3 : Int32) (x4 : Int32) : Nat → Int32 → Int64
  | 0, _ => 0
  | n + 1, q7 => (f_X7_round_17 k x1 x2 x3 x4 q7 (f_X7_round_L3 k x1 x2 x3 x4 n))
def f_X7_round (k : Nat) (x1 : Int32) (x2 : Int64) (x3 : Int32) (x4 : Int32) : Int64 := (f_X7_round_L3 k x1 x2 x3 x4 64 (0 : Int32))
