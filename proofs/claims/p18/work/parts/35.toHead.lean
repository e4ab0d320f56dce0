def ap : tm → Nat
  | .leaf _ => 0
  | .branch k l _ => if k = 4 then ap l + 1 else 0
def hm : tm → Nat
  | .leaf m => m
  | .branch k l _ => if k = 4 then hm l else k
theorem rd_app {bo : Nat → Option tm} {l r : tm} : rd bo (.branch 4 l r) = (match fb l with
      | some b => some (sbs r 0 b)
      | none => (rd bo l).map fun l' => .branch 4 l' r) := by
  rw [rd, if_pos rfl]
  rfl
theorem fb_some {l b : tm} (h : fb l = some b) : ∃ a, l = .branch 3 a b := by
  cases l with
  | leaf m => cases h
  | branch k a b' =>
    simp only [fb] at h
    split at h
    · rename_i e
      cases h
      exact ⟨a, by rw [e]⟩
    · cases h
theorem fb_none {l : tm} (h : hm l ≠ 3 ∨ 0 < ap l) : fb l = none := by
  cases l with
  | leaf m => rfl
  | branch k a b' =>
    simp only [fb]
    split
    · rename_i e
      subst e
      rcases h with h | h
      · exact absurd rfl h
      · exact absurd h (Nat.lt_irrefl 0)
    · rfl
theorem ap_sz (t : tm) : ap t < sz t := by
  induction t with
  | leaf m => exact Nat.zero_lt_one
  | branch k l r hl hr =>
    simp only [ap, sz]
    split <;> omega
/-- the head of a row -/
theorem enc_head (t : tm) : ∃ rest, enc t = List.replicate (ap t) 4 ++ hm t :: rest := by
  induction t with
  | leaf m => exact ⟨[], rfl⟩
  | branch k l r hl hr =>
    by_cases hk : k = 4
    · obtain ⟨rest, h⟩ := hl
      refine ⟨rest ++ enc r, ?_⟩
      simp only [enc, ap, hm, hk, if_pos rfl, h, List.replicate_succ, List.cons_append, List.append_assoc]
      rfl
    · refine ⟨enc l ++ enc r, ?_⟩
      simp only [enc, ap, hm, if_neg hk]
      rfl
theorem rd_bodies {bo : Nat → Option tm} {t b : tm} (hw : wft t) (h5 : hm t % 10 = 5) (hb : bo (hm t / 10) = some b) : ∃ t' rest, rd bo t = some t' ∧ enc t = List.replicate (ap t) 4 ++ hm t :: rest ∧ enc t' = List.replicate (ap t) 4 ++ (enc b ++ rest) := by
  induction t with
  | leaf m =>
    refine ⟨b, [], ?_, rfl, ?_⟩
    · simp only [rd, hm] at *
      rw [if_pos h5, hb]
    · rw [List.append_nil]
      rfl
  | branch k l r hl hr =>
    by_cases hk : k = 4
    · subst hk
      simp only [hm, if_pos, ap] at *
      obtain ⟨t', rest, h1, h2, h3⟩ := hl hw.2.1 h5 hb
      refine ⟨.branch 4 t' r, rest ++ enc r, ?_, ?_, ?_⟩
      · rw [rd_app, fb_none (.inl (by omega)), h1]
        rfl
      · simp only [enc, h2, List.replicate_succ, List.cons_append, List.append_assoc]
      · simp only [enc, h3, List.replicate_succ, List.cons_append, List.append_assoc]
    · simp only [hm, if_neg hk] at h5
      have := hw.1
      omega
theorem rd_beta {bo : Nat → Option tm} (t : tm) : wft t → hm t = 3 → ∀ n, ap t = n + 1 → ∃ t' a b x rest, rd bo t = some t' ∧ wft a ∧ wft b ∧ wft x ∧ enc t = List.replicate n 4 ++ (4 :: 3 :: (enc a ++ (enc b ++ (enc x ++ rest)))) ∧ enc t' = List.replicate n 4 ++ (enc (sbs x 0 b) ++ rest) := by
  induction t with
  | leaf m =>
    intro hw h3 n hn
    cases hn
  | branch k l r hl hr =>
    intro hw h3 n hn
    by_cases hk : k = 4
    · subst hk
      simp only [hm, if_pos, ap, Nat.add_right_cancel_iff] at *
      cases n with
      | zero =>
        cases l with
        | leaf m =>
          simp only [hm, wft] at *
          omega
        | branch k' a b =>
          by_cases hk' : k' = 4
          · subst hk'
            simp only [ap, if_pos] at hn
            omega
          · simp only [hm, if_neg hk'] at h3
            subst h3
            refine ⟨sbs r 0 b, a, b, r, [], rfl, hw.2.1.2.1, hw.2.1.2.2, hw.2.2, ?_, ?_⟩
            · simp only [enc, List.replicate_zero, List.nil_append, List.append_nil, List.cons_append, List.append_assoc]
            · simp only [List.replicate_zero, List.nil_append, List.append_nil]
      | succ n =>
        obtain ⟨t', a, b, x, rest, h1, ha, hb, hx, h2, h4⟩ := hl hw.2.1 h3 n hn
        refine ⟨.branch 4 t' r, a, b, x, rest ++ enc r, ?_, ha, hb, hx, ?_, ?_⟩
        · rw [rd_app, fb_none (.inr (by omega)), h1]
          rfl
        · simp only [enc, h2, List.replicate_succ, List.cons_append, List.append_assoc]
        · simp only [enc, h4, List.replicate_succ, List.cons_append, List.append_assoc]
    · simp only [ap, if_neg hk] at hn
      cases hn
theorem rd_none {bo : Nat → Option tm} (t : tm) (hw : wft t) (h1 : ¬ (hm t = 3 ∧ 0 < ap t)) (h2 : hm t % 10 = 5 → bo (hm t / 10) = none) : rd bo t = none := by
  induction t with
  | leaf m =>
    simp only [rd, hm] at *
    split
    · rename_i h
      exact h2 h
    · rfl
  | branch k l r hl hr =>
    by_cases hk : k = 4
    · subst hk
      simp only [hm, ap, if_pos] at h1 h2
      rw [rd_app, fb_none (.inl (fun h => h1 ⟨h, by omega⟩)), hl hw.2.1 (fun h => h1 ⟨h.1, by omega⟩) h2]
      rfl
    · rw [rd, if_neg hk]
def hf (bo : Nat → Option tm) : Nat → tm → Option (tm × Nat)
  | 0, t => match rd bo t with
    | none => some (t, 0)
    | some _ => none
  | n + 1, t => match rd bo t with
    | none => some (t, n + 1)
    | some t' => if sz t' ≤ 60 ∧ dp t' ≤ 12 then hf bo n t' else none
theorem okt_hm {u q : Nat} (t : tm) : ∀ {c}, okt u q c t → hm t % 10 = 5 → hm t / 10 < q := by
  induction t with
  | leaf m =>
    intro c h h5
    simp only [okt, hm] at *
    omega
  | branch k l r hl hr =>
    intro c h h5
    by_cases hk : k = 4
    · simp only [hm, if_pos hk] at *
      exact hl h.2.1 h5
    · simp only [hm, if_neg hk] at *
      have := h.1
      omega
theorem okt_rd {u q c : Nat} {bo : Nat → Option tm} (hc : 10 ≤ c) (hbo : ∀ i b, i < q → bo i = some b → okt u q 10 b) (t : tm) : ∀ {t'}, okt u q c t → rd bo t = some t' → okt u q c t' := by
  induction t with
  | leaf m =>
    intro t' h e
    simp only [rd] at e
    split at e
    · simp only [okt] at h
      exact okt_mono (Nat.le_refl _) (Nat.le_refl _) _ hc (hbo _ _ (by omega) e)
    · cases e
  | branch k l r hl hr =>
    intro t' h e
    by_cases hk : k = 4
    · subst hk
      rw [rd_app] at e
      split at e
      · rename_i b hfb
        obtain ⟨a, rfl⟩ := fb_some hfb
        cases e
        have h2 := h.2.2
        rw [show bi 4 = 0 from rfl] at h2
        exact okt_sbs b (Nat.zero_le _) h2 h.2.1.2.2
      · rcases hx : rd bo l with _ | l'
        · rw [hx] at e
          cases e
        · rw [hx] at e
          cases e
          exact ⟨h.1, hl h.2.1 hx, h.2.2⟩
    · rw [rd, if_neg hk] at e
      cases e
theorem dp_sbs {x : tm} (t : tm) : ∀ {b : Nat}, dp (sbs x b t) ≤ dp t + dp x := by
  induction t with
  | leaf m =>
    intro b
    have := dp_pos x
    simp only [sbs]
    split
    · split
      · simp only [dp]; omega
      · split
        · rw [(sz_shf x).2]; omega
        · simp only [dp]; omega
    · simp only [dp]; omega
  | branch k l r hl hr =>
    intro b
    have h1 := hl (b := b)
    have h2 := hr (b := b + bi k)
    simp only [sbs, dp]
    change 1 + max _ _ ≤ 1 + max _ _ + _
    omega
theorem dp_rd {u q c : Nat} {bo : Nat → Option tm} (hbo : ∀ i b, i < q → bo i = some b → dp b ≤ 12) (t : tm) : ∀ {t'}, okt u q c t → rd bo t = some t' → dp t' ≤ 2 * dp t + 12 := by
  induction t with
  | leaf m =>
    intro t' h e
    simp only [rd] at e
    split at e
    · simp only [okt] at h
      have := hbo _ _ (by omega) e
      omega
    · cases e
  | branch k l r hl hr =>
    intro t' h e
    by_cases hk : k = 4
    · subst hk
      rw [rd_app] at e
      split at e
      · rename_i b hfb
        obtain ⟨a, rfl⟩ := fb_some hfb
        cases e
        have h1 := dp_sbs (x := r) b (b := 0)
        simp only [dp]
        change _ ≤ 2 * (1 + max (1 + max (dp a) (dp b)) (dp r)) + 12
        omega
      · rcases hx : rd bo l with _ | l'
        · rw [hx] at e
          cases e
        · rw [hx] at e
          cases e
          have h1 := hl h.2.1 hx
          simp only [dp]
          change 1 + max (dp l') (dp r) ≤ 2 * (1 + max (dp l) (dp r)) + 12
          omega
    · rw [rd, if_neg hk] at e
      cases e
