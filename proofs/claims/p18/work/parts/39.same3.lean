def mk : tm → Nat
  | .leaf m => m
  | .branch k _ _ => k
theorem mk_lt {t : tm} (h : wft t) : mk t < 10000 := by
  cases t with
  | leaf m => exact h.1
  | branch k a b =>
    have := h.1
    simp only [mk]
    omega
theorem cmp2_none {s t : tm} (hs : wft s) (ht : wft t) (h : cmp2 s t = none) : mk s % 10 ≠ mk t % 10 ∨ (mk s % 10 = mk t % 10 ∧ mk s ≠ mk t ∧ ¬ (2 ≤ mk s % 10 ∧ mk s % 10 ≤ 4)) := by
  cases s with
  | leaf m =>
    cases t with
    | leaf m' =>
      simp only [cmp2] at h
      split at h
      · cases h
      · rename_i hne
        simp only [mk]
        by_cases hk : m % 10 = m' % 10
        · exact .inr ⟨hk, hne, by
            have := hs.2
            omega⟩
        · exact .inl hk
    | branch k' a' b' =>
      have := hs.2
      have := ht.1
      simp only [mk]
      omega
  | branch k a b =>
    cases t with
    | leaf m' =>
      have := hs.1
      have := ht.2
      simp only [mk]
      omega
    | branch k' a' b' =>
      simp only [cmp2] at h
      split at h
      · cases h
      · have := hs.1
        have := ht.1
        simp only [mk]
        omega
