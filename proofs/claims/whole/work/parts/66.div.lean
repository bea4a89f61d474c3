/-! ===== layer 2: dividing ===== -/
set_option maxRecDepth 100000 in
theorem irm5K : ∀ n : Nat, n < 9 → 0 < n → ∀ a : Nat, a < 512 → irm (iI (a : Int)) (iI (n : Int)) = iI ((a % n : Nat) : Int) := by decide +kernel
set_option maxRecDepth 100000 in
theorem div5K : ∀ n : Nat, n < 9 → 0 < n → ∀ a : Nat, a < 512 → iI (a : Int) / iI (n : Int) = iI ((a / n : Nat) : Int) := by decide +kernel
