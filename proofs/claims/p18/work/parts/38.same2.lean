theorem cmp2_case (s t : tm) : cmp2 s t = none ∨ (cmp2 s t = some [] ∧ ∃ m, s = .leaf m ∧ t = .leaf m) ∨ ∃ k a b a' b', s = .branch k a b ∧ t = .branch k a' b' ∧ cmp2 s t = some [(a, a'), (b, b')] := by
  cases s with
  | leaf m =>
    cases t with
    | leaf m' =>
      by_cases h : m = m'
      · subst h
        exact .inr (.inl ⟨if_pos rfl, m, rfl, rfl⟩)
      · exact .inl (if_neg h)
    | branch k' a' b' => exact .inl rfl
  | branch k a b =>
    cases t with
    | leaf m' => exact .inl rfl
    | branch k' a' b' =>
      by_cases h : k = k'
      · subst h
        exact .inr (.inr ⟨k, a, b, a', b', rfl, rfl, if_pos rfl⟩)
      · exact .inl (if_neg h)
theorem sw_gas {q : Nat} (hq : q ≤ 16) {bo : Nat → Option tm} (hbo : ∀ i b, i < q → bo i = some b → okt 10 q 10 b) (g : Nat) : ∀ {n : Nat} {l : List (tm × tm)}, tot l + 60 * n < g → oks q n l → hts n l → ∃ r, sw bo g n l = some r := by
  induction g with
  | zero => intro n l h; omega
  | succ g ih =>
    intro n l h ho ht
    cases l with
    | nil => exact ⟨_, rfl⟩
    | cons p l =>
      obtain ⟨s, t⟩ := p
      rcases h1 : hf bo n s with _ | ⟨s', n1⟩
      · exact ⟨none, by simp only [sw, h1]⟩
      · rcases h2 : hf bo n1 t with _ | ⟨t', n2⟩
        · exact ⟨none, by simp only [sw, h1, h2]⟩
        · obtain ⟨-, -, -, -, k1, k2⟩ := sw_step hq hbo ho ht h1 h2
          rcases cmp2_case s' t' with hc | ⟨hc, -⟩ | ⟨k, a, b, a', b', rfl, rfl, hc⟩
          · exact ⟨some (false, n2), by simp only [sw, h1, h2, hc]⟩
          · obtain ⟨o1, o2, o3⟩ := k1 hc
            obtain ⟨r, hr⟩ := ih (by omega) o1 o2
            exact ⟨r, by simp only [sw, h1, h2, hc, List.nil_append]; exact hr⟩
          · obtain ⟨o1, o2, o3⟩ := k2 k a b a' b' rfl rfl
            obtain ⟨r, hr⟩ := ih (by omega) o1 o2
            exact ⟨r, by simp only [sw, h1, h2, hc]; exact hr⟩
/-- the pairs that wait -/
def Zs (zz zl zr : Nat → Int32) : List (tm × tm) → Prop
  | [] => True
  | (s, t) :: l => zl l.length = jn (sz s) ∧ zr l.length = jn (sz t) ∧ Seg zz (tot l) (enc s) ∧ Seg zz (tot l + sz s) (enc t) ∧ Zs zz zl zr l
theorem zs_cong {zz zl zr zz' zl' zr' : Nat → Int32} (l : List (tm × tm)) : (∀ j, j < tot l → zz' j = zz j) → (∀ j, j < l.length → zl' j = zl j) → (∀ j, j < l.length → zr' j = zr j) → Zs zz zl zr l → Zs zz' zl' zr' l := by
  induction l with
  | nil => intros; trivial
  | cons p l ih =>
    obtain ⟨s, t⟩ := p
    intro h1 h2 h3 h
    simp only [tot, List.length_cons] at h1 h2 h3
    refine ⟨(h2 _ (by omega)).trans h.1, (h3 _ (by omega)).trans h.2.1, seg_cong (fun j _ hj => h1 j ?_) h.2.2.1, seg_cong (fun j _ hj => h1 j ?_) h.2.2.2.1, ih (fun j hj => h1 j (by omega)) (fun j hj => h2 j (by omega)) (fun j hj => h3 j (by omega)) h.2.2.2.2⟩
    · rw [enc_len] at hj
      omega
    · rw [enc_len] at hj
      omega
theorem hts_len {n : Nat} {p : tm × tm} {l : List (tm × tm)} (h : hts n (p :: l)) : l.length ≤ 371 := by
  have h1 := h.1
  have := dp_pos p.1
  omega
