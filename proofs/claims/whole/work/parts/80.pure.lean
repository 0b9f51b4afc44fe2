/-- WHAT IS LEFT: the law's meaning, over every script -/
theorem pure_law (Ln : Nat) (xs : Nat → Int32) (hL : Ln ≤ 2560) : ∃ h', BL_law Ln xs [some .null, none, none, none] ([], fun _ _ => 0) = some (.inr (some (.int 1), h')) := sorry
