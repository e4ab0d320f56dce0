/-- without what is passing -/
def dr (N : cN) : cN := (N.1, N.2.1, N.2.2.1, N.2.2.2.1, N.2.2.2.2.1, N.2.2.2.2.2.1, N.2.2.2.2.2.2.1, N.2.2.2.2.2.2.2.1, N.2.2.2.2.2.2.2.1)
theorem c_drop (N : cN) : fN_dropPassing N = some (dr N) := rfl
theorem dr_ni {N : cN} (h : NI N) : NI (dr N) := by
  obtain ⟨h1, h2, h3, h4, h5, h6, h7, h8, h9⟩ := h
  exact ⟨h1, h2, h2, h4, h5, Nat.le_refl _, Nat.le_trans h6 h7, h8, h9⟩
theorem dr_ex {N : cN} (h : NI N) : Ex (dr N) N := by
  obtain ⟨h1, h2, h3, h4, h5, h6, h7, h8, h9⟩ := h
  exact ⟨rfl, rfl, h6, Nat.le_refl _, fun _ _ => ⟨rfl, rfl, rfl, rfl, rfl⟩⟩
theorem dr_dr {N N' : cN} (h : Ex (dr N) N') : Ex (dr N) (dr N') := by
  obtain ⟨h1, h2, h3, h4, h5⟩ := h
  exact ⟨h1, h2, Nat.le_of_eq h2.symm, h4, h5⟩
