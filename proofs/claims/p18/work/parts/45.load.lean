/-- a term in the tables -/
def Tr (mt : Nat) (K L R : Nat → Int32) : Nat → tm → Prop
  | p, .leaf m => p < mt ∧ K p = jn (m % 10) ∧ L p = jn (m / 10)
  | p, .branch k l r => p < mt ∧ K p = jn k ∧ ∃ a b, L p = jn a ∧ R p = jn b ∧ Tr mt K L R a l ∧ Tr mt K L R b r
theorem tr_lt {mt : Nat} {K L R : Nat → Int32} {p : Nat} {t : tm} (h : Tr mt K L R p t) : p < mt := by
  cases t with
  | leaf m => exact h.1
  | branch k l r => exact h.1
theorem kt_le (t : tm) : kt t + 1 ≤ 4 * sz t := by
  induction t with
  | leaf m => exact Nat.le_of_ble_eq_true rfl
  | branch k a b ha hb =>
    simp only [kt, sz]
    omega
