/-! ===== head forms keep their shape ===== -/
section Wh
variable {bo : Nat → Option tm}
theorem rd4 {l r : tm} (h : rd bo (.branch 4 l r) = none) : fb l = none ∧ rd bo l = none := by
  simp only [rd, if_pos] at h
  rcases hf : fb l with _ | b
  · rw [hf] at h
    refine ⟨rfl, ?_⟩
    rcases hr : rd bo l with _ | l'
    · rfl
    · rw [hr] at h
      cases h
  · rw [hf] at h
    cases h
theorem rd4' {l r : tm} (h1 : fb l = none) (h2 : rd bo l = none) : rd bo (.branch 4 l r) = none := by
  simp only [rd, if_pos, h1, h2]
  rfl
theorem rd_no {k : Nat} {l r : tm} (h : k ≠ 4) : rd bo (.branch k l r) = none := if_neg h
theorem par_leaf {m : Nat} {u : tm} (h : rd bo (.leaf m) = none) (hp : par bo (.leaf m) u) : u = .leaf m := by
  rcases hp with rfl | ⟨h5, hb⟩
  · rfl
  · simp only [rd, if_pos h5] at h
    rw [h] at hb
    cases hb
theorem par_neu (t : tm) : ∀ {u : tm}, rd bo t = none → fb t = none → par bo t u → rd bo u = none ∧ fb u = none := by
  induction t with
  | leaf m =>
    intro u h1 h2 hp
    rw [par_leaf h1 hp]
    exact ⟨h1, h2⟩
  | branch k l r hl hr =>
    intro u h1 h2 hp
    by_cases h4 : k = 4
    · subst h4
      obtain ⟨g1, g2⟩ := rd4 h1
      rcases par_inv hp with ⟨l', r', q1, q2, rfl⟩ | ⟨-, a, b, b', r', rfl, -⟩
      · obtain ⟨x1, x2⟩ := hl g2 g1 q1
        exact ⟨rd4' x2 x1, rfl⟩
      · cases g1
    · obtain ⟨l', r', q1, q2, rfl⟩ := par_inv2 h4 hp
      refine ⟨rd_no h4, ?_⟩
      simp only [fb] at h2 ⊢
      by_cases h3 : k = 3
      · rw [if_pos h3] at h2
        cases h2
      · rw [if_neg h3]
theorem par_app {l r u : tm} (h : rd bo (.branch 4 l r) = none) (hp : par bo (.branch 4 l r) u) : ∃ l' r', u = .branch 4 l' r' ∧ par bo l l' ∧ par bo r r' ∧ rd bo u = none := by
  obtain ⟨g1, g2⟩ := rd4 h
  rcases par_inv hp with ⟨l', r', q1, q2, rfl⟩ | ⟨-, a, b, b', r', rfl, -⟩
  · obtain ⟨x1, x2⟩ := par_neu l g2 g1 q1
    exact ⟨l', r', rfl, q1, q2, rd4' x2 x1⟩
  · cases g1
theorem red_leaf {m : Nat} {s u : tm} (hp : red bo s u) : s = .leaf m → rd bo (.leaf m) = none → u = .leaf m :=
  red_i (P := fun s u => s = .leaf m → rd bo (.leaf m) = none → u = .leaf m) (fun t h _ => h) (fun s w t h1 ih h2 h3 => ih (par_leaf h3 (h2 ▸ h1)) h3) hp
/-- what a head form that is no leaf becomes -/
theorem red_node {s u : tm} (hp : red bo s u) : ∀ {k : Nat} {l r : tm}, s = .branch k l r → rd bo s = none → ∃ l' r', u = .branch k l' r' ∧ red bo l l' ∧ red bo r r' := by
  refine red_i (P := fun s u => ∀ {k : Nat} {l r : tm}, s = .branch k l r → rd bo s = none → ∃ l' r', u = .branch k l' r' ∧ red bo l l' ∧ red bo r r') (fun t k l r h _ => ⟨l, r, h, red_r l, red_r r⟩) (fun s w t h1 ih k l r h2 h3 => ?_) hp
  subst h2
  by_cases h4 : k = 4
  · subst h4
    obtain ⟨l', r', rfl, q1, q2, q3⟩ := par_app h3 h1
    obtain ⟨l2, r2, g1, g2, g3⟩ := ih rfl q3
    exact ⟨l2, r2, g1, red_t (red_1 q1) g2, red_t (red_1 q2) g3⟩
  · obtain ⟨l', r', q1, q2, rfl⟩ := par_inv2 h4 h1
    obtain ⟨l2, r2, g1, g2, g3⟩ := ih rfl (rd_no h4)
    exact ⟨l2, r2, g1, red_t (red_1 q1) g2, red_t (red_1 q2) g3⟩
/-- head forms that are convertible compare -/
theorem wh_cmp {s t : tm} (hs : rd bo s = none) (ht : rd bo t = none) (h : conv bo s t) : ∃ ps, cmp2 s t = some ps ∧ ∀ p, p ∈ ps → conv bo p.1 p.2 := by
  obtain ⟨u, h1, h2⟩ := h
  cases s with
  | leaf a =>
    have e1 := red_leaf h1 rfl hs
    cases t with
    | leaf b =>
      have e2 := red_leaf h2 rfl ht
      rw [e1] at e2
      cases e2
      exact ⟨[], if_pos rfl, fun p hp => by cases hp⟩
    | branch k l r =>
      obtain ⟨l', r', e2, -⟩ := red_node h2 rfl ht
      rw [e1] at e2
      cases e2
  | branch k l r =>
    obtain ⟨l', r', e1, a1, a2⟩ := red_node h1 rfl hs
    cases t with
    | leaf b =>
      have e2 := red_leaf h2 rfl ht
      rw [e1] at e2
      cases e2
    | branch k' l2 r2 =>
      obtain ⟨l3, r3, e2, b1, b2⟩ := red_node h2 rfl ht
      rw [e1] at e2
      cases e2
      refine ⟨_, if_pos rfl, fun p hp => ?_⟩
      rcases List.mem_cons.mp hp with rfl | hp
      · exact ⟨_, a1, b1⟩
      · rcases List.mem_cons.mp hp with rfl | hp
        · exact ⟨_, a2, b2⟩
        · cases hp
theorem rd_univ {n : Nat} : rd bo (.leaf (1 + 10 * n)) = none := if_neg (by omega)
theorem conv_univ {s : tm} {n : Nat} (h : conv bo s (.leaf (1 + 10 * n))) : red bo s (.leaf (1 + 10 * n)) := by
  obtain ⟨u, h1, h2⟩ := h
  rw [red_leaf h2 rfl rd_univ] at h1
  exact h1
theorem conv_pi {s x y : tm} (h : conv bo s (.branch 2 x y)) : ∃ x' y', red bo s (.branch 2 x' y') ∧ red bo x x' ∧ red bo y y' := by
  obtain ⟨u, h1, h2⟩ := h
  obtain ⟨x', y', rfl, g1, g2⟩ := red_node h2 rfl (rd_no (by omega))
  exact ⟨x', y', h1, g1, g2⟩
theorem conv_pipi {x y x' y' : tm} (h : conv bo (.branch 2 x y) (.branch 2 x' y')) : conv bo x x' ∧ conv bo y y' := by
  obtain ⟨u, h1, h2⟩ := h
  obtain ⟨a, b, rfl, g1, g2⟩ := red_node h1 rfl (rd_no (by omega))
  obtain ⟨a', b', e, g3, g4⟩ := red_node h2 rfl (rd_no (by omega))
  cases e
  exact ⟨⟨a, g1, g3⟩, ⟨b, g2, g4⟩⟩
theorem conv_uu {n m : Nat} (h : conv bo (.leaf (1 + 10 * n)) (.leaf (1 + 10 * m))) : n = m := by
  have h1 := red_leaf (conv_univ h) rfl rd_univ
  injection h1 with h1
  omega
/-- a reduction of the head is one -/
theorem rd_par (t : tm) : ∀ {t' : tm}, rd bo t = some t' → par bo t t' := by
  induction t with
  | leaf m =>
    intro t' h
    simp only [rd] at h
    split at h
    · rename_i h5
      exact .inr ⟨h5, h⟩
    · cases h
  | branch k l r hl hr =>
    intro t' h
    by_cases h4 : k = 4
    · subst h4
      simp only [rd, if_pos] at h
      rcases hf : fb l with _ | b
      · rw [hf] at h
        rcases hd : rd bo l with _ | l'
        · rw [hd] at h
          cases h
        · rw [hd] at h
          cases h
          exact par_c (hl hd) (par_r r)
      · rw [hf] at h
        cases h
        cases l with
        | leaf m => cases hf
        | branch j a c =>
          simp only [fb] at hf
          split at hf
          · rename_i h3
            cases hf
            subst h3
            exact par_b (par_r _) (par_r r)
          · cases hf
    · rw [rd_no h4] at h
      cases h
theorem hf_red (n : Nat) : ∀ {t t' : tm} {n' : Nat}, hf bo n t = some (t', n') → red bo t t' ∧ rd bo t' = none := by
  induction n with
  | zero =>
    intro t t' n' h
    simp only [hf] at h
    rcases hd : rd bo t with _ | u
    · rw [hd] at h
      cases h
      exact ⟨red_r _, hd⟩
    · rw [hd] at h
      cases h
  | succ n ih =>
    intro t t' n' h
    simp only [hf] at h
    rcases hd : rd bo t with _ | u
    · rw [hd] at h
      cases h
      exact ⟨red_r _, hd⟩
    · rw [hd] at h
      simp only at h
      split at h
      · obtain ⟨g1, g2⟩ := ih h
        exact ⟨red_t (red_1 (rd_par t hd)) g1, g2⟩
      · cases h
/-- the comparison never finds two convertible terms to be different -/
theorem sw_no (hbo : ∀ i b, bo i = some b → cl 0 b) (g : Nat) : ∀ {n n' : Nat} {l : List (tm × tm)}, (∀ p, p ∈ l → conv bo p.1 p.2) → sw bo g n l ≠ some (some (false, n')) := by
  induction g with
  | zero => intro n n' l _ h; cases h
  | succ g ih =>
    intro n n' l hl h
    cases l with
    | nil => cases h
    | cons p l =>
      obtain ⟨s, t⟩ := p
      simp only [sw] at h
      have hst : conv bo s t := hl _ (List.mem_cons_self ..)
      rcases h1 : hf bo n s with _ | ⟨s', n1⟩
      · rw [h1] at h
        cases h
      · rw [h1] at h
        simp only at h
        rcases h2 : hf bo n1 t with _ | ⟨t', n2⟩
        · rw [h2] at h
          cases h
        · rw [h2] at h
          simp only at h
          obtain ⟨a1, a2⟩ := hf_red n h1
          obtain ⟨b1, b2⟩ := hf_red n1 h2
          have hc : conv bo s' t' := conv_t hbo (conv_s (conv_red a1)) (conv_t hbo hst (conv_red b1))
          obtain ⟨ps, e, hps⟩ := wh_cmp a2 b2 hc
          rw [e] at h
          simp only at h
          refine ih (fun p hp => ?_) h
          rcases List.mem_append.mp hp with hp | hp
          · exact hps p hp
          · exact hl p (List.mem_cons_of_mem _ hp)
/-- and what it finds to be the same is convertible -/
theorem sw_yes (hbo : ∀ i b, bo i = some b → cl 0 b) (g : Nat) : ∀ {n n' : Nat} {l : List (tm × tm)}, sw bo g n l = some (some (true, n')) → ∀ p, p ∈ l → conv bo p.1 p.2 := by
  induction g with
  | zero => intro n n' l h; cases h
  | succ g ih =>
    intro n n' l h p hp
    cases l with
    | nil => cases hp
    | cons q l =>
      obtain ⟨s, t⟩ := q
      simp only [sw] at h
      rcases h1 : hf bo n s with _ | ⟨s', n1⟩
      · rw [h1] at h
        cases h
      · rw [h1] at h
        simp only at h
        rcases h2 : hf bo n1 t with _ | ⟨t', n2⟩
        · rw [h2] at h
          cases h
        · rw [h2] at h
          simp only at h
          obtain ⟨a1, a2⟩ := hf_red n h1
          obtain ⟨b1, b2⟩ := hf_red n1 h2
          rcases hc : cmp2 s' t' with _ | ps
          · rw [hc] at h
            cases h
          · rw [hc] at h
            simp only at h
            have hall := ih h
            rcases List.mem_cons.mp hp with rfl | hp
            · have hst : conv bo s' t' := by
                cases s' with
                | leaf a =>
                  cases t' with
                  | leaf b =>
                    simp only [cmp2] at hc
                    split at hc
                    · rename_i e
                      rw [e]
                      exact conv_r _
                    · cases hc
                  | branch k x y => cases hc
                | branch k x y =>
                  cases t' with
                  | leaf b => cases hc
                  | branch k' x' y' =>
                    simp only [cmp2] at hc
                    split at hc
                    · rename_i e
                      cases hc
                      subst e
                      exact conv_c (hall (x, x') (List.mem_append_left _ (List.mem_cons_self ..))) (hall (y, y') (List.mem_append_left _ (List.mem_cons_of_mem _ (List.mem_cons_self ..))))
                    · cases hc
              exact conv_t hbo (conv_red a1) (conv_t hbo hst (conv_s (conv_red b1)))
            · exact hall p (List.mem_append_right _ hp)
end Wh
