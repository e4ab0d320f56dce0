/-- all that stood stands, also with more terms -/
def Gx (N N' : cN) : Prop := ∀ p, vd N p → vd N' p ∧ N'.1 p = N.1 p ∧ N'.2.1 p = N.2.1 p ∧ N'.2.2.1 p = N.2.2.1 p ∧ N'.2.2.2.1 p = N.2.2.2.1 p ∧ N'.2.2.2.2.1 p = N.2.2.2.2.1 p
theorem gx_ex {N N' : cN} (h : Ex N N') : Gx N N' := fun p hp => ⟨ex_vd h hp, h.2.2.2.2 p hp⟩
theorem gx_trans {N N' N'' : cN} (h : Gx N N') (h' : Gx N' N'') : Gx N N'' := fun p hp => by
  obtain ⟨v, a1, a2, a3, a4, a5⟩ := h p hp
  obtain ⟨v', b1, b2, b3, b4, b5⟩ := h' p v
  exact ⟨v', b1.trans a1, b2.trans a2, b3.trans a3, b4.trans a4, b5.trans a5⟩
theorem rp_gx {N N' : cN} (h : Gx N N') (t : tm) : ∀ {p : Nat}, Rp N p t → Rp N' p t := by
  induction t with
  | leaf m =>
    intro p hp
    obtain ⟨h1, h2, h3, h4, h5, h6⟩ := hp
    obtain ⟨v, a1, a2, a3, a4, a5⟩ := h p h1
    exact ⟨v, a1.trans h2, a2.trans h3, a3.trans h4, a4.trans h5, a5.trans h6⟩
  | branch k l r hl hr =>
    intro p hp
    obtain ⟨h1, h2, h3, h4, a, b, h5, h6, h7, h8⟩ := hp
    obtain ⟨v, a1, a2, a3, a4, a5⟩ := h p h1
    exact ⟨v, a1.trans h2, a4.trans h3, a5.trans h4, a, b, a2.trans h5, a3.trans h6, hl h7, hr h8⟩
theorem ci_gx {q : Nat} {N N' : cN} {C : cC} {ct : Nat → tm} {bo : Nat → Option tm} (h' : Gx N N') (h : CI q N C ct bo) : CI q N' C ct bo := by
  refine ⟨h.1, h.2.1, fun c hc => ?_⟩
  obtain ⟨⟨tp, h1, h2⟩, h3⟩ := h.2.2 c hc
  refine ⟨⟨tp, h1, rp_gx h' _ h2⟩, ?_⟩
  split
  · rename_i b e
    rw [e] at h3
    obtain ⟨bp, g1, g2, g3⟩ := h3
    exact ⟨bp, g1, rp_gx h' _ g2, g3⟩
  · rename_i e
    rw [e] at h3
    exact h3
/-- one term more, in the class's rows -/
def addN (N : cN) (k a b s d : Int32) : cN := (upd N.1 (nmt N) k, upd N.2.1 (nmt N) a, upd N.2.2.1 (nmt N) b, upd N.2.2.2.1 (nmt N) s, upd N.2.2.2.2.1 (nmt N) d, N.2.2.2.2.2.1, jn (nmt N + 1), N.2.2.2.2.2.2.2)
theorem nmt_add {N : cN} (hm : nmt N < 120) {k a b s d : Int32} : nmt (addN N k a b s d) = nmt N + 1 := j_nat (by omega)
theorem gx_add {N : cN} (hN : NI N) (hm : nmt N < 120) {k a b s d : Int32} : Gx N (addN N k a b s d) := by
  intro p hp
  have hne : p ≠ nmt N := by
    unfold vd at hp
    omega
  refine ⟨?_, if_neg hne, if_neg hne, if_neg hne, if_neg hne, if_neg hne⟩
  unfold vd at hp ⊢
  rw [nmt_add hm]
  have : nen (addN N k a b s d) = nen N := rfl
  omega
theorem ni_add {N : cN} (hN : NI N) (hm : nmt N < 120) {k a b s d : Int32} : NI (addN N k a b s d) := by
  obtain ⟨h1, h2, h3, h4, h5, h6, h7, h8, h9⟩ := hN
  refine ⟨?_, h2, h3, ?_, h5, h6, h7, h8, h9⟩
  · rw [nmt_add hm]
    rfl
  · rw [nmt_add hm]
    omega
theorem tr_mono {m m' : Nat} (hm : m ≤ m') {K L R K' L' R' : Nat → Int32} (h : ∀ p, p < m → K' p = K p ∧ L' p = L p ∧ R' p = R p) (t : tm) : ∀ {p : Nat}, Tr m K L R p t → Tr m' K' L' R' p t := by
  induction t with
  | leaf x =>
    intro p hp
    obtain ⟨a, b, c⟩ := h p hp.1
    exact ⟨by have := hp.1; omega, a.trans hp.2.1, b.trans hp.2.2⟩
  | branch k l r hl hr =>
    intro p hp
    obtain ⟨h1, h2, x, y, h3, h4, h5, h6⟩ := hp
    obtain ⟨a, b, c⟩ := h p h1
    exact ⟨by omega, a.trans h2, x, y, b.trans h3, c.trans h4, hl h5, hr h6⟩
