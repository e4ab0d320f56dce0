def cutN (N : cN) (m : Nat) : cN := (N.1, N.2.1, N.2.2.1, N.2.2.2.1, N.2.2.2.2.1, N.2.2.2.2.2.1, jn m, N.2.2.2.2.2.2.2)
theorem cut_ni {N N' : cN} (hN : NI N) (hN' : NI N') (hle : N'.2.2.2.2.2.2.2 = N.2.2.2.2.2.2.2) : NI (cutN N' (nmt N)) ∧ nmt (cutN N' (nmt N)) = nmt N ∧ nle (cutN N' (nmt N)) = nle N := by
  obtain ⟨h1, h2, h3, h4, h5, h6, h7, h8, h9⟩ := hN'
  have hm : nmt N ≤ 120 := hN.2.2.2.1
  have e : nmt (cutN N' (nmt N)) = nmt N := j_nat (by omega)
  refine ⟨⟨?_, h2, h3, by omega, h5, h6, h7, h8, h9⟩, e, ?_⟩
  · rw [e]
    rfl
  · have : nle (cutN N' (nmt N)) = nle N' := rfl
    rw [this]
    unfold nle
    rw [hle]
