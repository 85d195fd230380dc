theorem R_sort {S : CSt} {M : MSt} (h : Rel S M) (x1 : Int32) (x2 : Int32) : R2i (f_X6_sort S x1 x2) (f_X7_sort M x1 x2) := by sorry
