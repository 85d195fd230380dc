-- the two states side by side
section ST
variable {S : CSt} {M : MSt} {j p : Nat}
theorem n10 : ¬ (1 : Int32) = 0 := by decide
end ST

