/-- the terms, on both sides -/
def TT (q : Nat) (N : cN) (T : cT) : Prop := T.1 = jn (nmt N) ∧ ∀ p, p < nmt N → (T.2.1 p = N.1 p ∧ T.2.2.1 p = N.2.1 p ∧ T.2.2.2.1 p = N.2.2.1 p ∧ T.2.2.2.2.1 p = N.2.2.2.1 p ∧ T.2.2.2.2.2 p = N.2.2.2.2.1 p) ∧ ∃ t, Rp N p t ∧ Tr (nmt N) T.2.1 T.2.2.1 T.2.2.2.1 p t ∧ okt 9 q 10 t ∧ sz t ≤ 60 ∧ dp t ≤ 12
theorem tt_ex {q : Nat} {N N' : cN} {T : cT} (hx : Ex N N') (h : TT q N T) : TT q N' T := by
  refine ⟨by rw [hx.1]; exact h.1, fun p hp => ?_⟩
  rw [hx.1] at hp ⊢
  obtain ⟨⟨e1, e2, e3, e4, e5⟩, t, h1, h2, h3⟩ := h.2 p hp
  obtain ⟨a1, a2, a3, a4, a5⟩ := hx.2.2.2.2 p (.inl hp)
  exact ⟨⟨e1.trans a1.symm, e2.trans a2.symm, e3.trans a3.symm, e4.trans a4.symm, e5.trans a5.symm⟩, t, rp_ex hx t h1, h2, h3⟩
theorem tt_q {q q' : Nat} (hq : q ≤ q') {N : cN} {T : cT} (h : TT q N T) : TT q' N T := by
  refine ⟨h.1, fun p hp => ?_⟩
  obtain ⟨e, t, h1, h2, h3, h4⟩ := h.2 p hp
  exact ⟨e, t, h1, h2, okt_mono (Nat.le_refl 9) hq t (Nat.le_refl 10) h3, h4⟩
