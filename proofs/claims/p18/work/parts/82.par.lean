/-! ===== reductions at once, and that they come together ===== -/
def par (bo : Nat → Option tm) : tm → tm → Prop
  | .leaf m, u => u = .leaf m ∨ (m % 10 = 5 ∧ bo (m / 10) = some u)
  | .branch k (.leaf m) r, u => ∃ l' r', (l' = .leaf m ∨ (m % 10 = 5 ∧ bo (m / 10) = some l')) ∧ par bo r r' ∧ u = .branch k l' r'
  | .branch k (.branch j a b) r, u => (∃ l' r', par bo (.branch j a b) l' ∧ par bo r r' ∧ u = .branch k l' r') ∨ (k = 4 ∧ j = 3 ∧ ∃ b' r', par bo b b' ∧ par bo r r' ∧ u = sbs r' 0 b')
section Par
variable {bo : Nat → Option tm}
theorem par_c {k : Nat} {l l' r r' : tm} (hl : par bo l l') (hr : par bo r r') : par bo (.branch k l r) (.branch k l' r') := by
  cases l with
  | leaf m => exact ⟨l', r', hl, hr, rfl⟩
  | branch j a b => exact .inl ⟨l', r', hl, hr, rfl⟩
theorem par_b {a b b' r r' : tm} (hb : par bo b b') (hr : par bo r r') : par bo (.branch 4 (.branch 3 a b) r) (sbs r' 0 b') := .inr ⟨rfl, rfl, b', r', hb, hr, rfl⟩
theorem par_inv {k : Nat} {l r u : tm} (h : par bo (.branch k l r) u) : (∃ l' r', par bo l l' ∧ par bo r r' ∧ u = .branch k l' r') ∨ (k = 4 ∧ ∃ a b b' r', l = .branch 3 a b ∧ par bo b b' ∧ par bo r r' ∧ u = sbs r' 0 b') := by
  cases l with
  | leaf m => exact .inl h
  | branch j a b =>
    rcases h with h | ⟨rfl, rfl, b', r', h1, h2, h3⟩
    · exact .inl h
    · exact .inr ⟨rfl, a, b, b', r', rfl, h1, h2, h3⟩
theorem par_inv2 {k : Nat} {l r u : tm} (hk : k ≠ 4) (h : par bo (.branch k l r) u) : ∃ l' r', par bo l l' ∧ par bo r r' ∧ u = .branch k l' r' := by
  rcases par_inv h with h | ⟨h, -⟩
  · exact h
  · exact absurd h hk
theorem par_r (t : tm) : par bo t t := by
  induction t with
  | leaf m => exact .inl rfl
  | branch k l r hl hr => exact par_c hl hr
theorem par_shf (hbo : ∀ i b, bo i = some b → cl 0 b) (N : Nat) : ∀ {t u : tm} {n b : Nat}, sz t ≤ N → par bo t u → par bo (shf n b t) (shf n b u) := by
  induction N with
  | zero =>
    intro t u n b h
    have := sz_pos t
    omega
  | succ N ih =>
    intro t u n b h hp
    cases t with
    | leaf m =>
      rcases hp with rfl | ⟨h5, hb⟩
      · exact par_r _
      · rw [shf_c (by omega), cl_shf u (Nat.zero_le b) (hbo _ _ hb)]
        exact .inr ⟨h5, hb⟩
    | branch k l r =>
      simp only [sz] at h
      rcases par_inv hp with ⟨l', r', h1, h2, rfl⟩ | ⟨rfl, a, c, c', r', rfl, h1, h2, rfl⟩
      · rw [shf_b, shf_b]
        exact par_c (ih (by omega) h1) (ih (by omega) h2)
      · simp only [sz] at h
        have e := shf_sbs (x := r') (n := n) (d := b) c' (b := 0)
        rw [Nat.zero_add] at e
        rw [shf_b, shf_b, e]
        exact par_b (ih (by omega) h1) (ih (by omega) h2)
theorem par_sbs (hbo : ∀ i b, bo i = some b → cl 0 b) {x x' : tm} (hx : par bo x x') (N : Nat) : ∀ {t u : tm} {b : Nat}, sz t ≤ N → par bo t u → par bo (sbs x b t) (sbs x' b u) := by
  induction N with
  | zero =>
    intro t u b h
    have := sz_pos t
    omega
  | succ N ih =>
    intro t u b h hp
    cases t with
    | leaf m =>
      rcases hp with rfl | ⟨h5, hb⟩
      · rcases lv m with h2 | ⟨v, rfl⟩
        · rw [sbs_c h2, sbs_c h2]
          exact par_r _
        · show par bo (sbs x b (vr v)) (sbs x' b (vr v))
          by_cases h1 : v < b
          · rw [sbs_lt h1, sbs_lt h1]
            exact par_r _
          · by_cases h2 : v = b
            · rw [sbs_eq h2, sbs_eq h2]
              exact par_shf hbo (sz x) (Nat.le_refl _) hx
            · rw [sbs_gt (by omega), sbs_gt (by omega)]
              exact par_r _
      · rw [sbs_c (by omega), cl_sbs u (Nat.zero_le b) (hbo _ _ hb)]
        exact .inr ⟨h5, hb⟩
    | branch k l r =>
      simp only [sz] at h
      rcases par_inv hp with ⟨l', r', h1, h2, rfl⟩ | ⟨rfl, a, c, c', r', rfl, h1, h2, rfl⟩
      · rw [sbs_b, sbs_b]
        exact par_c (ih (by omega) h1) (ih (by omega) h2)
      · simp only [sz] at h
        have e := sbs_sbs (x := r') (y := x') (d := b) c' (b := 0)
        rw [Nat.zero_add] at e
        rw [sbs_b, sbs_b, e]
        exact par_b (ih (by omega) h1) (ih (by omega) h2)
/-- all at once -/
def cd (bo : Nat → Option tm) : tm → tm
  | .leaf m => if m % 10 = 5 then (bo (m / 10)).getD (.leaf m) else .leaf m
  | .branch k (.leaf m) r => .branch k (if m % 10 = 5 then (bo (m / 10)).getD (.leaf m) else .leaf m) (cd bo r)
  | .branch k (.branch j a b) r => if k = 4 ∧ j = 3 then sbs (cd bo r) 0 (cd bo b) else .branch k (cd bo (.branch j a b)) (cd bo r)
theorem cd_no {k : Nat} {l r : tm} (h : ¬ (k = 4 ∧ ∃ a b, l = .branch 3 a b)) : cd bo (.branch k l r) = .branch k (cd bo l) (cd bo r) := by
  cases l with
  | leaf m => rfl
  | branch j a b =>
    rw [cd]
    exact if_neg (fun h1 => h ⟨h1.1, a, b, by rw [h1.2]⟩)
theorem cd_yes {a b r : tm} : cd bo (.branch 4 (.branch 3 a b) r) = sbs (cd bo r) 0 (cd bo b) := by
  rw [cd]
  exact if_pos ⟨rfl, rfl⟩
theorem par_cd (hbo : ∀ i b, bo i = some b → cl 0 b) (N : Nat) : ∀ {t u : tm}, sz t ≤ N → par bo t u → par bo u (cd bo t) := by
  induction N with
  | zero =>
    intro t u h
    have := sz_pos t
    omega
  | succ N ih =>
    intro t u h hp
    cases t with
    | leaf m =>
      rcases hp with rfl | ⟨h5, hb⟩
      · rw [cd]
        by_cases h5 : m % 10 = 5
        · rw [if_pos h5]
          rcases hb : bo (m / 10) with _ | b
          · exact par_r _
          · exact .inr ⟨h5, hb⟩
        · rw [if_neg h5]
          exact par_r _
      · rw [cd, if_pos h5, hb]
        exact par_r _
    | branch k l r =>
      simp only [sz] at h
      rcases par_inv hp with ⟨l', r', h1, h2, rfl⟩ | ⟨rfl, a, c, c', r', rfl, h1, h2, rfl⟩
      · by_cases hc : k = 4 ∧ ∃ a b, l = .branch 3 a b
        · obtain ⟨rfl, a, b, rfl⟩ := hc
          obtain ⟨a', b', g1, g2, rfl⟩ := par_inv2 (by omega) h1
          simp only [sz] at h
          rw [cd_yes]
          exact par_b (ih (by omega) g2) (ih (by omega) h2)
        · rw [cd_no hc]
          exact par_c (ih (by omega) h1) (ih (by omega) h2)
      · simp only [sz] at h
        rw [cd_yes]
        exact par_sbs hbo (ih (by omega) h2) (sz c') (Nat.le_refl _) (ih (by omega) h1)
def pars (bo : Nat → Option tm) : Nat → tm → tm → Prop
  | 0, s, t => s = t
  | n + 1, s, t => ∃ u, par bo s u ∧ pars bo n u t
def red (bo : Nat → Option tm) (s t : tm) : Prop := ∃ n, pars bo n s t
def conv (bo : Nat → Option tm) (s t : tm) : Prop := ∃ u, red bo s u ∧ red bo t u
theorem red_r (t : tm) : red bo t t := ⟨0, rfl⟩
theorem red_1 {s t : tm} (h : par bo s t) : red bo s t := ⟨1, t, h, rfl⟩
theorem pars_t (n : Nat) : ∀ {m : Nat} {s t u : tm}, pars bo n s t → pars bo m t u → pars bo (n + m) s u := by
  induction n with
  | zero =>
    intro m s t u h1 h2
    cases h1
    rw [Nat.zero_add]
    exact h2
  | succ n ih =>
    intro m s t u h1 h2
    obtain ⟨v, g1, g2⟩ := h1
    rw [show n + 1 + m = n + m + 1 by omega]
    exact ⟨v, g1, ih g2 h2⟩
theorem red_t {s t u : tm} (h1 : red bo s t) (h2 : red bo t u) : red bo s u := by
  obtain ⟨n, h1⟩ := h1
  obtain ⟨m, h2⟩ := h2
  exact ⟨n + m, pars_t n h1 h2⟩
/-- what one step keeps, many keep -/
theorem red_i {P : tm → tm → Prop} (h0 : ∀ t, P t t) (h1 : ∀ s u t, par bo s u → P u t → P s t) {s t : tm} (h : red bo s t) : P s t := by
  obtain ⟨n, h⟩ := h
  induction n generalizing s with
  | zero =>
    cases h
    exact h0 _
  | succ n ih =>
    obtain ⟨u, g1, g2⟩ := h
    exact h1 _ _ _ g1 (ih g2)
theorem par_strip (hbo : ∀ i b, bo i = some b → cl 0 b) {s u : tm} (hu : red bo s u) : ∀ {t : tm}, par bo s t → ∃ v, red bo t v ∧ par bo u v := by
  refine red_i (bo := bo) (P := fun s u => ∀ {t : tm}, par bo s t → ∃ v, red bo t v ∧ par bo u v) (fun s t h => ⟨t, red_r t, h⟩) (fun s w u h1 ih t h2 => ?_) hu
  obtain ⟨v, g1, g2⟩ := ih (par_cd hbo (sz s) (Nat.le_refl _) h1)
  exact ⟨v, red_t (red_1 (par_cd hbo (sz s) (Nat.le_refl _) h2)) g1, g2⟩
theorem red_conf (hbo : ∀ i b, bo i = some b → cl 0 b) {s t : tm} (ht : red bo s t) : ∀ {u : tm}, red bo s u → ∃ v, red bo t v ∧ red bo u v := by
  refine red_i (bo := bo) (P := fun s t => ∀ {u : tm}, red bo s u → ∃ v, red bo t v ∧ red bo u v) (fun s u h => ⟨u, h, red_r u⟩) (fun s w t h1 ih u h2 => ?_) ht
  obtain ⟨v, g1, g2⟩ := par_strip hbo h2 h1
  obtain ⟨x, g3, g4⟩ := ih g1
  exact ⟨x, g3, red_t (red_1 g2) g4⟩
theorem conv_r (t : tm) : conv bo t t := ⟨t, red_r t, red_r t⟩
theorem conv_s {s t : tm} (h : conv bo s t) : conv bo t s := by
  obtain ⟨u, h1, h2⟩ := h
  exact ⟨u, h2, h1⟩
theorem conv_red {s t : tm} (h : red bo s t) : conv bo s t := ⟨t, h, red_r t⟩
theorem conv_t (hbo : ∀ i b, bo i = some b → cl 0 b) {s t u : tm} (h1 : conv bo s t) (h2 : conv bo t u) : conv bo s u := by
  obtain ⟨v, a1, a2⟩ := h1
  obtain ⟨w, b1, b2⟩ := h2
  obtain ⟨x, c1, c2⟩ := red_conf hbo a2 b1
  exact ⟨x, red_t a1 c1, red_t b2 c2⟩
theorem red_c {k : Nat} {l l' r r' : tm} (hl : red bo l l') (hr : red bo r r') : red bo (.branch k l r) (.branch k l' r') := by
  refine red_t (t := .branch k l' r) ?_ ?_
  · exact red_i (P := fun l l' => red bo (.branch k l r) (.branch k l' r)) (fun t => red_r _) (fun s u t h1 h2 => red_t (red_1 (par_c h1 (par_r r))) h2) hl
  · exact red_i (P := fun r r' => red bo (.branch k l' r) (.branch k l' r')) (fun t => red_r _) (fun s u t h1 h2 => red_t (red_1 (par_c (par_r l') h1)) h2) hr
theorem conv_c {k : Nat} {l l' r r' : tm} (hl : conv bo l l') (hr : conv bo r r') : conv bo (.branch k l r) (.branch k l' r') := by
  obtain ⟨u, a1, a2⟩ := hl
  obtain ⟨v, b1, b2⟩ := hr
  exact ⟨_, red_c a1 b1, red_c a2 b2⟩
theorem red_shf (hbo : ∀ i b, bo i = some b → cl 0 b) {n b : Nat} {s t : tm} (h : red bo s t) : red bo (shf n b s) (shf n b t) :=
  red_i (P := fun s t => red bo (shf n b s) (shf n b t)) (fun t => red_r _) (fun s u t h1 h2 => red_t (red_1 (par_shf hbo (sz s) (Nat.le_refl _) h1)) h2) h
theorem conv_shf (hbo : ∀ i b, bo i = some b → cl 0 b) {n b : Nat} {s t : tm} (h : conv bo s t) : conv bo (shf n b s) (shf n b t) := by
  obtain ⟨u, a1, a2⟩ := h
  exact ⟨_, red_shf hbo a1, red_shf hbo a2⟩
theorem red_sbs (hbo : ∀ i b, bo i = some b → cl 0 b) {x x' : tm} {b : Nat} {s t : tm} (hx : red bo x x') (h : red bo s t) : red bo (sbs x b s) (sbs x' b t) := by
  refine red_t (t := sbs x' b s) ?_ ?_
  · exact red_i (P := fun x x' => red bo (sbs x b s) (sbs x' b s)) (fun t => red_r _) (fun y u t h1 h2 => red_t (red_1 (par_sbs hbo h1 (sz s) (Nat.le_refl _) (par_r s))) h2) hx
  · exact red_i (P := fun s t => red bo (sbs x' b s) (sbs x' b t)) (fun t => red_r _) (fun y u t h1 h2 => red_t (red_1 (par_sbs hbo (par_r x') (sz y) (Nat.le_refl _) h1)) h2) h
theorem conv_sbs (hbo : ∀ i b, bo i = some b → cl 0 b) {x x' : tm} {b : Nat} {s t : tm} (hx : conv bo x x') (h : conv bo s t) : conv bo (sbs x b s) (sbs x' b t) := by
  obtain ⟨u, a1, a2⟩ := hx
  obtain ⟨v, b1, b2⟩ := h
  exact ⟨_, red_sbs hbo a1 b1, red_sbs hbo a2 b2⟩
theorem par_cl (hbo : ∀ i b, bo i = some b → cl 0 b) (N : Nat) : ∀ {t u : tm} {c : Nat}, sz t ≤ N → par bo t u → cl c t → cl c u := by
  induction N with
  | zero =>
    intro t u c h
    have := sz_pos t
    omega
  | succ N ih =>
    intro t u c h hp hc
    cases t with
    | leaf m =>
      rcases hp with rfl | ⟨h5, hb⟩
      · exact hc
      · exact cl_mono u (Nat.zero_le c) (hbo _ _ hb)
    | branch k l r =>
      simp only [sz] at h
      rcases par_inv hp with ⟨l', r', h1, h2, rfl⟩ | ⟨rfl, a, d, d', r', rfl, h1, h2, rfl⟩
      · exact ⟨ih (by omega) h1 hc.1, ih (by omega) h2 hc.2⟩
      · simp only [sz] at h
        exact cl_sbs2 d' (Nat.zero_le c) (ih (by omega) h2 hc.2) (ih (by omega) h1 hc.1.2)
theorem red_cl (hbo : ∀ i b, bo i = some b → cl 0 b) {c : Nat} {s t : tm} (h : red bo s t) : cl c s → cl c t :=
  red_i (P := fun s t => cl c s → cl c t) (fun t h => h) (fun s u t h1 h2 h3 => h2 (par_cl hbo (sz s) (Nat.le_refl _) h1 h3)) h
end Par
theorem par_mono {bo bo' : Nat → Option tm} (hm : ∀ i b, bo i = some b → bo' i = some b) (N : Nat) : ∀ {t u : tm}, sz t ≤ N → par bo t u → par bo' t u := by
  induction N with
  | zero =>
    intro t u h
    have := sz_pos t
    omega
  | succ N ih =>
    intro t u h hp
    cases t with
    | leaf m =>
      rcases hp with rfl | ⟨h5, hb⟩
      · exact .inl rfl
      · exact .inr ⟨h5, hm _ _ hb⟩
    | branch k l r =>
      simp only [sz] at h
      rcases par_inv hp with ⟨l', r', h1, h2, rfl⟩ | ⟨rfl, a, d, d', r', rfl, h1, h2, rfl⟩
      · exact par_c (ih (by omega) h1) (ih (by omega) h2)
      · simp only [sz] at h
        exact par_b (ih (by omega) h1) (ih (by omega) h2)
theorem red_mono {bo bo' : Nat → Option tm} (hm : ∀ i b, bo i = some b → bo' i = some b) {s t : tm} (h : red bo s t) : red bo' s t :=
  red_i (bo := bo) (P := fun s t => red bo' s t) (fun t => red_r t) (fun s u t h1 h2 => red_t (red_1 (par_mono hm (sz s) (Nat.le_refl _) h1)) h2) h
theorem conv_mono {bo bo' : Nat → Option tm} (hm : ∀ i b, bo i = some b → bo' i = some b) {s t : tm} (h : conv bo s t) : conv bo' s t := by
  obtain ⟨u, a1, a2⟩ := h
  exact ⟨u, red_mono hm a1, red_mono hm a2⟩
