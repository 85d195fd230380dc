theorem R_sort {S : CSt} {M : MSt} (h : Rel S M) (x1 : Int32) (x2 : Int32) : R2i (f_X6_sort S x1 x2) (f_X7_sort M x1 x2) := by sorry
theorem R_least {S : CSt} {M : MSt} (h : Rel S M) (x1 : Int32) : R2i (f_X6_least S x1) (f_X7_least M x1) := by sorry
theorem R_greatest {S : CSt} {M : MSt} (h : Rel S M) (x1 : Int32) : R2i (f_X6_greatest S x1) (f_X7_greatest M x1) := by sorry
theorem R_sum {S : CSt} {M : MSt} (h : Rel S M) (x1 : Int32) (x2 : Int32) : R2l (f_X6_sum S x1 x2) (f_X7_sum M x1 x2) := by sorry
theorem R_find {S : CSt} {M : MSt} (h : Rel S M) (x1 : Int32) (x2 : Int64) : R2i (f_X6_find S x1 x2) (f_X7_find M x1 x2) := by sorry
theorem R_interval {S : CSt} {M : MSt} (h : Rel S M) (x1 : Int32) (x2 : Int32) (x3 : Int32) (x4 : Int32) : R2i (f_X6_interval S x1 x2 x3 x4) (f_X7_interval M x1 x2 x3 x4) := by sorry
