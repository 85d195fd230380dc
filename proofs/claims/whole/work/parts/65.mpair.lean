theorem low_at {S : MSt} (hI : mInv S) {x a : Int32} {b : Int64} (hQ : mPair S x a) (e : b = f_X7_at S x ((2 : Int32) * a)) : kcn (mk S x.toNatClampNeg) b := by
  rw [e]
  exact mPl.cln hI (mPair.lo hQ)
theorem high_at {S : MSt} (hI : mInv S) {x a : Int32} {b : Int64} (hQ : mPair S x a) (e : b = f_X7_at S x (((2 : Int32) * a) + (1 : Int32))) : kcn (mk S x.toNatClampNeg) b := by
  rw [e]
  exact mPl.cln hI (mPair.hi hQ)
