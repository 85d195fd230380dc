theorem R_row {S : CSt} {M : MSt} (h : Rel S M) (x1 : Int32) (x2 : Int32) (q na : Nat) : R2i (f_X6_row S x1 (b01 x2) q na) (f_X7_row M x1 (b01 x2)) := by sorry
theorem R_set {S : CSt} {M : MSt} (h : Rel S M) (x1 : Int32) (x2 : Int32) (x3 : Int64) : R2i (f_X6_set S x1 x2 x3) (f_X7_set M x1 x2 x3) := by sorry
theorem R_whole {S : CSt} {M : MSt} (h : Rel S M) (x1 : Int32) (x2 : Int32) (x3 : Int64) : R2i (f_X6_whole S x1 x2 x3) (f_X7_whole M x1 x2 x3) := by sorry
theorem R_get {S : CSt} {M : MSt} (h : Rel S M) (x1 : Int32) (x2 : Int32) : R2l (f_X6_get S x1 x2) (f_X7_get M x1 x2) := by sorry
theorem R_cut {S : CSt} {M : MSt} (h : Rel S M) (x1 : Int32) (x2 : Int32) (x3 : Int32) : R2l (f_X6_cut S x1 x2 (b01 x3)) (f_X7_cut M x1 x2 (b01 x3)) := by sorry
theorem R_compare {S : CSt} {M : MSt} (h : Rel S M) (x1 : Int32) (x2 : Int32) (x3 : Int32) : R2i (f_X6_compare S x1 x2 x3) (f_X7_compare M x1 x2 x3) := by sorry
theorem R_between {S : CSt} {M : MSt} (h : Rel S M) (x1 : Int32) (x2 : Int32) (x3 : Int32) (x4 : Int32) : R2i (f_X6_between S x1 x2 x3 x4) (f_X7_between M x1 x2 x3 x4) := by sorry
theorem R_total {S : CSt} {M : MSt} (h : Rel S M) (x1 : Int32) (x2 : Int32) (x3 : Int32) : R2i (f_X6_total S x1 x2 x3) (f_X7_total M x1 x2 x3) := by sorry
theorem R_sort {S : CSt} {M : MSt} (h : Rel S M) (x1 : Int32) (x2 : Int32) : R2i (f_X6_sort S x1 x2) (f_X7_sort M x1 x2) := by sorry
theorem R_act {S : CSt} {M : MSt} (h : Rel S M) (x1 : Int32) (x2 : Int32) (x3 : Int32) (x4 : Int32) (x5 : Int32) : R2i (f_X6_act S x1 x2 x3 x4 x5) (f_X7_act M x1 x2 x3 x4 x5) := by sorry
theorem R_step {S : CSt} {M : MSt} (h : Rel S M) (x1 : Int32) (x2 : Int32) (x3 : Int32) : R2i (f_X6_step S x1 x2 x3) (f_X7_step M x1 x2 x3) := by sorry
theorem R_least {S : CSt} {M : MSt} (h : Rel S M) (x1 : Int32) : R2i (f_X6_least S x1) (f_X7_least M x1) := by sorry
theorem R_greatest {S : CSt} {M : MSt} (h : Rel S M) (x1 : Int32) : R2i (f_X6_greatest S x1) (f_X7_greatest M x1) := by sorry
theorem R_sum {S : CSt} {M : MSt} (h : Rel S M) (x1 : Int32) (x2 : Int32) : R2l (f_X6_sum S x1 x2) (f_X7_sum M x1 x2) := by sorry
theorem R_find {S : CSt} {M : MSt} (h : Rel S M) (x1 : Int32) (x2 : Int64) : R2i (f_X6_find S x1 x2) (f_X7_find M x1 x2) := by sorry
theorem R_interval {S : CSt} {M : MSt} (h : Rel S M) (x1 : Int32) (x2 : Int32) (x3 : Int32) (x4 : Int32) : R2i (f_X6_interval S x1 x2 x3 x4) (f_X7_interval M x1 x2 x3 x4) := by sorry
theorem R_move {S : CSt} {M : MSt} (h : Rel S M) (x1 : Int32) (x2 : Int32) (x3 : Int32) (x4 : Int32) (x5 : Int32) : R2i (f_X6_move S x1 x2 x3 x4 (b01 x5)) (f_X7_move M x1 x2 x3 x4 (b01 x5)) := by sorry
theorem R_status {S : CSt} {M : MSt} (h : Rel S M) : f_X6_status S = f_X7_status M := by sorry
