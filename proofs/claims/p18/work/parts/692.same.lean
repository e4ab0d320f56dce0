/-! ===== same and check ===== -/
theorem b_e1 {e : Nat} (he : e = 2 ∨ e = 3) : ¬ jn e = (0 : Int32) := by rcases he with rfl | rfl <;> decide
