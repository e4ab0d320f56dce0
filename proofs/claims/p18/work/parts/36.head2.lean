theorem okt_hf {q c : Nat} {bo : Nat → Option tm} (hc : 10 ≤ c) (hbo : ∀ i b, i < q → bo i = some b → okt 10 q 10 b) : ∀ (n : Nat) {t t' : tm} {n' : Nat}, okt 10 q c t → hf bo n t = some (t', n') → okt 10 q c t' ∧ n' ≤ n ∧ ((t' = t ∧ n' = n) ∨ (sz t' ≤ 60 ∧ dp t' ≤ 12 ∧ n' < n)) ∧ rd bo t' = none := by
  intro n
  induction n with
  | zero =>
    intro t t' n' h e
    rcases hr : rd bo t with _ | t1
    · simp only [hf, hr, Option.some.injEq, Prod.mk.injEq] at e
      obtain ⟨rfl, rfl⟩ := e
      exact ⟨h, Nat.le_refl _, .inl ⟨rfl, rfl⟩, hr⟩
    · simp only [hf, hr, reduceCtorEq] at e
  | succ n ih =>
    intro t t' n' h e
    rcases hr : rd bo t with _ | t1
    · simp only [hf, hr, Option.some.injEq, Prod.mk.injEq] at e
      obtain ⟨rfl, rfl⟩ := e
      exact ⟨h, Nat.le_refl _, .inl ⟨rfl, rfl⟩, hr⟩
    · simp only [hf, hr] at e
      split at e
      · rename_i hb
        have h1 := okt_rd hc hbo t h hr
        obtain ⟨h2, h3, h4, h5⟩ := ih h1 e
        refine ⟨h2, by omega, .inr ?_, h5⟩
        rcases h4 with ⟨rfl, rfl⟩ | h4
        · exact ⟨hb.1, hb.2, by omega⟩
        · exact ⟨h4.1, h4.2.1, by omega⟩
      · cases e
