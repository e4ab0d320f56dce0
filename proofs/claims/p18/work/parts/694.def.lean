/-- what is passing becomes lasting -/
def kpN (N : cN) : cN := (N.1, N.2.1, N.2.2.1, N.2.2.2.1, N.2.2.2.2.1, N.2.2.2.2.2.1, N.2.2.2.2.2.2.1, N.2.2.2.2.2.2.2.2, N.2.2.2.2.2.2.2.2)
theorem kp_ni {N : cN} (h : NI N) : NI (kpN N) := by
  obtain ⟨h1, h2, h3, h4, h5, h6, h7, h8, h9⟩ := h
  exact ⟨h1, h3, h3, h4, Nat.le_trans h5 h6, Nat.le_refl _, h7, h8, h9⟩
theorem kp_gx (N : cN) : Gx N (dr (kpN N)) := fun p hp => ⟨hp, rfl, rfl, rfl, rfl, rfl⟩
theorem enc_lt (t : tm) : wft t → ∀ m, m ∈ enc t → m < 10000 := by
  induction t with
  | leaf x =>
    intro hw m hm
    rcases List.mem_cons.mp hm with rfl | hm
    · exact hw.1
    · cases hm
  | branch k l r hl hr =>
    intro hw m hm
    rcases List.mem_cons.mp hm with rfl | hm
    · have := hw.1
      omega
    · rcases List.mem_append.mp hm with hm | hm
      · exact hl hw.2.1 m hm
      · exact hr hw.2.2 m hm
theorem tg_app {k : Nat} {xs ys : List Nat} : tg k (xs ++ ys) = (tg k xs || tg k ys) := by simp only [tg, List.any_append]
theorem okt_tg {q : Nat} (t : tm) : ∀ {c : Nat}, okt 10 q c t → tg 1 (enc t) = false → okt 9 q c t := by
  induction t with
  | leaf m =>
    intro c h hg
    simp only [enc, tg, List.any_cons, List.any_nil, Bool.or_false, Bool.and_eq_false_iff, beq_eq_false_iff_ne, decide_eq_false_iff_not] at hg
    simp only [okt] at *
    omega
  | branch k l r hl hr =>
    intro c h hg
    simp only [enc] at hg
    rw [show k :: (enc l ++ enc r) = [k] ++ (enc l ++ enc r) from rfl, tg_app, tg_app, Bool.or_eq_false_iff, Bool.or_eq_false_iff] at hg
    exact ⟨h.1, hl h.2.1 hg.2.1, hr h.2.2 hg.2.2⟩
