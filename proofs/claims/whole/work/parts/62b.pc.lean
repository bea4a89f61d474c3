/-! ===== layer 2: twelve bits counted ===== -/
set_option maxRecDepth 100000 in
theorem pc12K : ∀ A : Nat, A < 4096 → Jd_bitCount (iI (A : Int)) = iI (cnt 12 A.testBit : Int) := by decide +kernel
