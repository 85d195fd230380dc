def sInv (k : Nat) (a b : Int64) (q : Int32) (n : Nat) : Prop := gInv 0 q n ∧ kcn k a ∧ kcn k b
theorem sInv.init {k : Nat} (hk : k < 2) : sInv k 0 0 0 501 := ⟨gInv.init0, kcn_0 hk, kcn_0 hk⟩
