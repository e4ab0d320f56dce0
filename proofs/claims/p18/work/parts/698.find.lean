/-! ===== a node that is like one, or a new one ===== -/
/-- what a node is -/
def Nd (q : Nat) (N : cN) (p x y : Int32) (t : tm) : Prop := (∃ m, t = .leaf m ∧ p = jn (m % 10) ∧ x = jn (m / 10) ∧ y = jng) ∨
  (∃ k a b l r, t = .branch k l r ∧ p = jn k ∧ x = jn a ∧ y = jn b ∧ a < 120 ∧ b < 120 ∧ Rp (dr N) a l ∧ Rp (dr N) b r)
