/-! ===== what has a type (without fuel) ===== -/
def tyR (q : Nat) (ct : Nat → tm) (bo : Nat → Option tm) : tm → List tm → tm → Prop
  | .leaf m, Γ, T => (m % 10 = 0 ∧ ∃ A, Γ[m / 10]? = some A ∧ T = shf (m / 10 + 1) 0 A) ∨ (m % 10 = 1 ∧ T = .leaf (m + 10)) ∨ (m % 10 = 5 ∧ m / 10 < q ∧ T = ct (m / 10))
  | .branch k a b, Γ, T => (k = 4 ∧ ∃ A x y B, tyR q ct bo a Γ A ∧ red bo A (.branch 2 x y) ∧ tyR q ct bo b Γ B ∧ conv bo B x ∧ T = sbs b 0 y) ∨
      ((k = 2 ∨ k = 3) ∧ ∃ A n B, tyR q ct bo a Γ A ∧ red bo A (.leaf (1 + 10 * n)) ∧ tyR q ct bo b (a :: Γ) B ∧ ((k = 2 ∧ ∃ j, red bo B (.leaf (1 + 10 * j)) ∧ T = .leaf (1 + 10 * Nat.max n j)) ∨ (k = 3 ∧ T = .branch 2 a B)))
/-- the constants are well made -/
def Gk (q : Nat) (ct : Nat → tm) (bo : Nat → Option tm) : Prop := (∀ i b, bo i = some b → i < q ∧ cl 0 b ∧ ∃ B, tyR q ct bo b [] B ∧ conv bo B (ct i)) ∧ ∀ c, c < q → cl 0 (ct c) ∧ ∃ S n, tyR q ct bo (ct c) [] S ∧ red bo S (.leaf (1 + 10 * n))
section Typ
variable {q : Nat} {ct : Nat → tm} {bo : Nat → Option tm}
theorem gk_bo (h : Gk q ct bo) : ∀ i b, bo i = some b → cl 0 b := fun i b hb => (h.1 i b hb).2.1
/-- between: n more are known at b -/
def Wk (n b : Nat) (Γ Γ' : List tm) : Prop := ∀ (i : Nat) (A : tm), Γ[i]? = some A → (i < b → Γ'[i]? = some (shf n (b - (i + 1)) A)) ∧ (b ≤ i → Γ'[i + n]? = some A)
theorem wk_cons {n b : Nat} {Γ Γ' : List tm} {a : tm} (h : Wk n b Γ Γ') : Wk n (b + 1) (a :: Γ) (shf n b a :: Γ') := by
  intro i A hi
  cases i with
  | zero =>
    cases hi
    refine ⟨fun _ => ?_, fun h => absurd h (by omega)⟩
    rw [show b + 1 - (0 + 1) = b by omega]
    rfl
  | succ i =>
    obtain ⟨h1, h2⟩ := h i A hi
    refine ⟨fun hb => ?_, fun hb => ?_⟩
    · rw [show b + 1 - (i + 1 + 1) = b - (i + 1) by omega]
      exact h1 (by omega)
    · rw [show i + 1 + n = i + n + 1 by omega]
      exact h2 (by omega)
theorem ty_wk (hg : Gk q ct bo) (t : tm) : ∀ {n b : Nat} {Γ Γ' : List tm} {T : tm}, tyR q ct bo t Γ T → Wk n b Γ Γ' → tyR q ct bo (shf n b t) Γ' (shf n b T) := by
  have hbo := gk_bo hg
  induction t with
  | leaf m =>
    intro n b Γ Γ' T h hw
    rcases h with ⟨h0, A, hA, rfl⟩ | ⟨h1, rfl⟩ | ⟨h5, hq, rfl⟩
    · obtain ⟨v, rfl⟩ : ∃ v, m = 10 * v := ⟨m / 10, by omega⟩
      have hv : 10 * v / 10 = v := by omega
      rw [hv] at hA ⊢
      obtain ⟨w1, w2⟩ := hw v A hA
      show tyR q ct bo (shf n b (vr v)) Γ' _
      by_cases hb : v < b
      · rw [shf_lt hb]
        refine .inl ⟨by omega, shf n (b - (v + 1)) A, ?_, ?_⟩
        · rw [hv]
          exact w1 hb
        · rw [hv]
          have := shf_comm (m := n) (n := v + 1) (d := b - (v + 1)) A (b := 0)
          rw [Nat.zero_add, show b - (v + 1) + (v + 1) = b by omega] at this
          exact this
      · rw [shf_ge (by omega)]
        have hv2 : 10 * (v + n) / 10 = v + n := by omega
        refine .inl ⟨by omega, A, ?_, ?_⟩
        · rw [hv2]
          exact w2 (by omega)
        · rw [hv2]
          have := shf_shf (m := n) (n := v + 1) (j := b) (by omega) A (b := 0)
          rw [Nat.zero_add] at this
          rw [this, show v + 1 + n = v + n + 1 by omega]
    · rw [shf_c (by omega), shf_c (by omega)]
      exact .inr (.inl ⟨h1, rfl⟩)
    · rw [shf_c (by omega), cl_shf _ (Nat.zero_le b) (hg.2 _ hq).1]
      exact .inr (.inr ⟨h5, hq, rfl⟩)
  | branch k a c ha hc =>
    intro n b Γ Γ' T h hw
    rcases h with ⟨rfl, A, x, y, B, h1, h2, h3, h4, rfl⟩ | ⟨hk, A, j, B, h1, h2, h3, h4⟩
    · refine .inl ⟨rfl, shf n b A, shf n b x, shf n (b + 1) y, shf n b B, ha h1 hw, red_shf hbo h2, hc h3 hw, conv_shf hbo h4, ?_⟩
      have e := shf_sbs (x := c) (n := n) (d := b) y (b := 0)
      rw [Nat.zero_add] at e
      exact e
    · have hb1 : b + bi k = b + 1 := by
        unfold bi
        rw [if_neg (by omega)]
      rw [shf_b, hb1]
      have h2' := red_shf hbo (n := n) (b := b) h2
      rw [shf_c (by omega)] at h2'
      refine .inr ⟨hk, shf n b A, j, shf n (b + 1) B, ha h1 hw, h2', hc h3 (wk_cons hw), ?_⟩
      rcases h4 with ⟨rfl, i, h5, rfl⟩ | ⟨rfl, rfl⟩
      · have h5' := red_shf hbo (n := n) (b := b + 1) h5
        rw [shf_c (by omega)] at h5'
        exact .inl ⟨rfl, i, h5', shf_c (by omega)⟩
      · exact .inr ⟨rfl, rfl⟩
theorem wk_one {Γ : List tm} {a : tm} : Wk 1 0 Γ (a :: Γ) := fun i A h => ⟨fun h => absurd h (Nat.not_lt_zero i), fun _ => h⟩
theorem wk_nil {Γ : List tm} {n : Nat} : Wk n 0 [] Γ := fun i A h => by cases h
/-- x for what is known at b, and all else as it was, up to conversion -/
def Sb (q : Nat) (ct : Nat → tm) (bo : Nat → Option tm) (x : tm) (b : Nat) (Γ Γ' : List tm) : Prop := ∀ (i : Nat) (E : tm), Γ[i]? = some E →
  (i < b → ∃ E', Γ'[i]? = some E' ∧ conv bo E' (sbs x (b - (i + 1)) E)) ∧ (i = b → ∃ X, tyR q ct bo (shf b 0 x) Γ' X ∧ conv bo X (shf b 0 E)) ∧ (b < i → ∃ E', Γ'[i - 1]? = some E' ∧ conv bo E' E)
theorem sb_cons (hg : Gk q ct bo) {x : tm} {b : Nat} {Γ Γ' : List tm} {a : tm} (h : Sb q ct bo x b Γ Γ') : Sb q ct bo x (b + 1) (a :: Γ) (sbs x b a :: Γ') := by
  have hbo := gk_bo hg
  intro i E hi
  cases i with
  | zero =>
    cases hi
    refine ⟨fun _ => ⟨sbs x b a, rfl, ?_⟩, fun h => absurd h (by omega), fun h => absurd h (by omega)⟩
    rw [show b + 1 - (0 + 1) = b by omega]
    exact conv_r _
  | succ i =>
    obtain ⟨h1, h2, h3⟩ := h i E hi
    refine ⟨fun hb => ?_, fun hb => ?_, fun hb => ?_⟩
    · rw [show b + 1 - (i + 1 + 1) = b - (i + 1) by omega]
      exact h1 (by omega)
    · obtain ⟨X, x1, x2⟩ := h2 (by omega)
      have g1 := ty_wk hg _ x1 (wk_one (a := sbs x b a))
      have e1 := shf_shf (m := 1) (n := b) (j := 0) (Nat.zero_le b) x (b := 0)
      have e2 := shf_shf (m := 1) (n := b) (j := 0) (Nat.zero_le b) E (b := 0)
      rw [Nat.zero_add] at e1 e2
      rw [e1] at g1
      refine ⟨_, g1, ?_⟩
      rw [← e2]
      exact conv_shf hbo x2
    · obtain ⟨E', x1, x2⟩ := h3 (by omega)
      refine ⟨E', ?_, x2⟩
      rw [show i + 1 - 1 = (i - 1) + 1 by omega]
      exact x1
theorem ty_sb (hg : Gk q ct bo) {x : tm} (t : tm) : ∀ {b : Nat} {Γ Γ' : List tm} {T : tm}, tyR q ct bo t Γ T → Sb q ct bo x b Γ Γ' → ∃ T', tyR q ct bo (sbs x b t) Γ' T' ∧ conv bo T' (sbs x b T) := by
  have hbo := gk_bo hg
  induction t with
  | leaf m =>
    intro b Γ Γ' T h hs
    rcases h with ⟨h0, A, hA, rfl⟩ | ⟨h1, rfl⟩ | ⟨h5, hq, rfl⟩
    · obtain ⟨v, rfl⟩ : ∃ v, m = 10 * v := ⟨m / 10, by omega⟩
      have hv : 10 * v / 10 = v := by omega
      rw [hv] at hA ⊢
      obtain ⟨w1, w2, w3⟩ := hs v A hA
      show ∃ T', tyR q ct bo (sbs x b (vr v)) Γ' T' ∧ _
      by_cases hb : v < b
      · obtain ⟨E', g1, g2⟩ := w1 hb
        rw [sbs_lt hb]
        refine ⟨shf (v + 1) 0 E', .inl ⟨by omega, E', ?_, ?_⟩, ?_⟩
        · rw [hv]
          exact g1
        · rw [hv]
        · have e := shf_sbs2 (x := x) (n := v + 1) (d := b - (v + 1)) A (c := 0)
          rw [Nat.zero_add, show b - (v + 1) + (v + 1) = b by omega] at e
          rw [← e]
          exact conv_shf hbo g2
      · by_cases hb2 : v = b
        · obtain ⟨X, g1, g2⟩ := w2 hb2
          rw [sbs_eq hb2]
          refine ⟨X, g1, ?_⟩
          have e := sbs_shf (x := x) (n := v) (j := b) (by omega) A (b := 0)
          rw [Nat.zero_add] at e
          rw [e, hb2]
          exact g2
        · obtain ⟨E', g1, g2⟩ := w3 (by omega)
          rw [sbs_gt (by omega)]
          have hv2 : 10 * (v - 1) / 10 = v - 1 := by omega
          refine ⟨shf v 0 E', .inl ⟨by omega, E', ?_, ?_⟩, ?_⟩
          · rw [hv2]
            exact g1
          · rw [hv2, show v - 1 + 1 = v by omega]
          · have e := sbs_shf (x := x) (n := v) (j := b) (by omega) A (b := 0)
            rw [Nat.zero_add] at e
            rw [e]
            exact conv_shf hbo g2
    · rw [sbs_c (by omega), sbs_c (by omega)]
      exact ⟨_, .inr (.inl ⟨h1, rfl⟩), conv_r _⟩
    · rw [sbs_c (by omega), cl_sbs _ (Nat.zero_le b) (hg.2 _ hq).1]
      exact ⟨_, .inr (.inr ⟨h5, hq, rfl⟩), conv_r _⟩
  | branch k a c ha hc =>
    intro b Γ Γ' T h hs
    rcases h with ⟨rfl, A, x0, y, B, h1, h2, h3, h4, rfl⟩ | ⟨hk, A, j, B, h1, h2, h3, h4⟩
    · obtain ⟨A', a1, a2⟩ := ha h1 hs
      obtain ⟨B', b1, b2⟩ := hc h3 hs
      have hA : conv bo A' (.branch 2 (sbs x b x0) (sbs x (b + 1) y)) := conv_t hbo a2 (conv_red (red_sbs hbo (red_r x) h2))
      obtain ⟨x1, y1, g1, g2, g3⟩ := conv_pi hA
      refine ⟨sbs (sbs x b c) 0 y1, .inl ⟨rfl, A', x1, y1, B', a1, g1, b1, ?_, rfl⟩, ?_⟩
      · exact conv_t hbo b2 (conv_t hbo (conv_sbs hbo (conv_r x) h4) (conv_red g2))
      · have e := sbs_sbs (x := c) (y := x) (d := b) y (b := 0)
        rw [Nat.zero_add] at e
        rw [e]
        exact conv_sbs hbo (conv_r _) (conv_s (conv_red g3))
    · have hb1 : b + bi k = b + 1 := by
        unfold bi
        rw [if_neg (by omega)]
      rw [sbs_b, hb1]
      obtain ⟨A', a1, a2⟩ := ha h1 hs
      obtain ⟨B', b1, b2⟩ := hc h3 (sb_cons hg hs)
      have hA : conv bo A' (.leaf (1 + 10 * j)) := by
        have := conv_t hbo a2 (conv_red (red_sbs hbo (b := b) (red_r x) h2))
        rwa [sbs_c (by omega)] at this
      rcases h4 with ⟨rfl, i, h5, rfl⟩ | ⟨rfl, rfl⟩
      · have hB : conv bo B' (.leaf (1 + 10 * i)) := by
          have := conv_t hbo b2 (conv_red (red_sbs hbo (b := b + 1) (red_r x) h5))
          rwa [sbs_c (by omega)] at this
        rw [sbs_c (by omega)]
        exact ⟨_, .inr ⟨hk, A', j, B', a1, conv_univ hA, b1, .inl ⟨rfl, i, conv_univ hB, rfl⟩⟩, conv_r _⟩
      · refine ⟨.branch 2 (sbs x b a) B', .inr ⟨hk, A', j, B', a1, conv_univ hA, b1, .inr ⟨rfl, rfl⟩⟩, ?_⟩
        exact conv_c (conv_r _) b2
/-- with other types that are convertible -/
theorem ty_cv (hg : Gk q ct bo) {t T : tm} {Γ Γ' : List tm} (h : tyR q ct bo t Γ T) (hc : ∀ (i : Nat) (E : tm), Γ[i]? = some E → ∃ E', Γ'[i]? = some E' ∧ conv bo E' E) : ∃ T', tyR q ct bo t Γ' T' ∧ conv bo T' T := by
  have h1 := ty_wk hg t h (wk_one (a := .leaf 11))
  obtain ⟨T', g1, g2⟩ := ty_sb hg (x := .leaf 1) (b := 0) (Γ' := Γ') _ h1 (by
    intro i E hi
    refine ⟨fun h => absurd h (Nat.not_lt_zero i), fun h => ?_, fun h => ?_⟩
    · subst h
      cases hi
      exact ⟨.leaf 11, .inr (.inl ⟨rfl, rfl⟩), conv_r _⟩
    · cases i with
      | zero => omega
      | succ i => exact hc i E hi)
  have e : ∀ s : tm, sbs (.leaf 1) 0 (shf 1 0 s) = s := fun s => by
    have := sbs_shf (x := .leaf 1) (n := 0) (j := 0) (Nat.le_refl 0) s (b := 0)
    rw [Nat.zero_add] at this
    rw [show (1 : Nat) = 0 + 1 from rfl, this, shf_0]
  rw [e] at g1 g2
  exact ⟨T', g1, g2⟩
theorem cv_cons {Γ : List tm} {a a' : tm} (h : conv bo a' a) : ∀ (i : Nat) (E : tm), (a :: Γ)[i]? = some E → ∃ E', (a' :: Γ)[i]? = some E' ∧ conv bo E' E := by
  intro i E hi
  cases i with
  | zero =>
    cases hi
    exact ⟨a', rfl, h⟩
  | succ i => exact ⟨E, hi, conv_r _⟩
/-- what is reduced keeps its type -/
theorem ty_par (hg : Gk q ct bo) (N : Nat) : ∀ {t t' T : tm} {Γ : List tm}, sz t ≤ N → par bo t t' → tyR q ct bo t Γ T → ∃ T', tyR q ct bo t' Γ T' ∧ conv bo T' T := by
  have hbo := gk_bo hg
  induction N with
  | zero =>
    intro t t' T Γ h
    have := sz_pos t
    omega
  | succ N ih =>
    intro t t' T Γ hN hp h
    cases t with
    | leaf m =>
      rcases hp with rfl | ⟨h5, hb⟩
      · exact ⟨T, h, conv_r _⟩
      · rcases h with ⟨h0, -⟩ | ⟨h1, -⟩ | ⟨-, hq, rfl⟩
        · omega
        · omega
        · obtain ⟨-, c1, B, g1, g2⟩ := hg.1 _ _ hb
          have h1 := ty_wk hg _ g1 (wk_nil (Γ := Γ) (n := Γ.length))
          rw [cl_shf t' (Nat.le_refl 0) c1] at h1
          refine ⟨_, h1, ?_⟩
          have := conv_shf hbo (n := Γ.length) (b := 0) g2
          rwa [cl_shf _ (Nat.le_refl 0) (hg.2 _ hq).1] at this
    | branch k a b =>
      simp only [sz] at hN
      rcases par_inv hp with ⟨a', b', p1, p2, rfl⟩ | ⟨rfl, c, d, d', b', rfl, p1, p2, rfl⟩
      · rcases h with ⟨rfl, A, x, y, B, h1, h2, h3, h4, rfl⟩ | ⟨hk, A, j, B, h1, h2, h3, h4⟩
        · obtain ⟨A', a1, a2⟩ := ih (by omega) p1 h1
          obtain ⟨B', b1, b2⟩ := ih (by omega) p2 h3
          obtain ⟨x1, y1, g1, g2, g3⟩ := conv_pi (conv_t hbo a2 (conv_red h2))
          exact ⟨sbs b' 0 y1, .inl ⟨rfl, A', x1, y1, B', a1, g1, b1, conv_t hbo b2 (conv_t hbo h4 (conv_red g2)), rfl⟩, conv_sbs hbo (conv_s (conv_red (red_1 p2))) (conv_s (conv_red g3))⟩
        · obtain ⟨A', a1, a2⟩ := ih (by omega) p1 h1
          obtain ⟨B1, b1, b2⟩ := ih (by omega) p2 h3
          obtain ⟨B', b3, b4⟩ := ty_cv hg b1 (cv_cons (Γ := Γ) (conv_s (conv_red (red_1 p1))))
          have hA := conv_univ (conv_t hbo a2 (conv_red h2))
          have hB := conv_t hbo b4 b2
          rcases h4 with ⟨rfl, i, h5, rfl⟩ | ⟨rfl, rfl⟩
          · exact ⟨_, .inr ⟨hk, A', j, B', a1, hA, b3, .inl ⟨rfl, i, conv_univ (conv_t hbo hB (conv_red h5)), rfl⟩⟩, conv_r _⟩
          · exact ⟨.branch 2 a' B', .inr ⟨hk, A', j, B', a1, hA, b3, .inr ⟨rfl, rfl⟩⟩, conv_c (conv_s (conv_red (red_1 p1))) hB⟩
      · simp only [sz] at hN
        rcases h with ⟨-, A, x, y, B, h1, h2, h3, h4, rfl⟩ | ⟨hk, -⟩
        · rcases h1 with ⟨h9, -⟩ | ⟨-, C, j, D, c1, c2, c3, c4⟩
          · omega
          · rcases c4 with ⟨h9, -⟩ | ⟨-, rfl⟩
            · omega
            · obtain ⟨e1, e2⟩ := conv_pipi (conv_red h2)
              obtain ⟨D', d1, d2⟩ := ih (by omega) p1 c3
              obtain ⟨B', b1, b2⟩ := ih (by omega) p2 h3
              have hB : conv bo B' c := conv_t hbo b2 (conv_t hbo h4 (conv_s e1))
              obtain ⟨T', t1, t2⟩ := ty_sb hg (x := b') (b := 0) (Γ' := Γ) d' d1 (by
                intro i E hi
                refine ⟨fun h => absurd h (Nat.not_lt_zero i), fun h => ?_, fun h => ?_⟩
                · subst h
                  cases hi
                  rw [shf_0, shf_0]
                  exact ⟨B', b1, hB⟩
                · cases i with
                  | zero => omega
                  | succ i => exact ⟨E, hi, conv_r _⟩)
              refine ⟨T', t1, conv_t hbo t2 ?_⟩
              exact conv_sbs hbo (conv_s (conv_red (red_1 p2))) (conv_t hbo d2 e2)
        · omega
theorem ty_red (hg : Gk q ct bo) {t t' : tm} (h : red bo t t') : ∀ {T : tm} {Γ : List tm}, tyR q ct bo t Γ T → ∃ T', tyR q ct bo t' Γ T' ∧ conv bo T' T := by
  have hbo := gk_bo hg
  have key := red_i (bo := bo) (P := fun t t' => ∀ (T : tm) (Γ : List tm), tyR q ct bo t Γ T → ∃ T', tyR q ct bo t' Γ T' ∧ conv bo T' T) (fun t T Γ h => ⟨T, h, conv_r _⟩) (fun s u t h1 ih T Γ h2 => by
    obtain ⟨T1, g1, g2⟩ := ty_par hg (sz s) (Nat.le_refl _) h1 h2
    obtain ⟨T2, g3, g4⟩ := ih T1 Γ g1
    exact ⟨T2, g3, conv_t hbo g4 g2⟩) h
  intro T Γ hT
  exact key T Γ hT
/-- what is known is well made -/
def wfc (q : Nat) (ct : Nat → tm) (bo : Nat → Option tm) (Γ : List tm) : Prop := ∀ (i : Nat) (A : tm), Γ[i]? = some A → ∃ S n, tyR q ct bo (shf (i + 1) 0 A) Γ S ∧ red bo S (.leaf (1 + 10 * n))
theorem wfc_nil : wfc q ct bo [] := fun i A h => by cases h
theorem wfc_cons (hg : Gk q ct bo) {Γ : List tm} {a S : tm} {n : Nat} (h : wfc q ct bo Γ) (h1 : tyR q ct bo a Γ S) (h2 : red bo S (.leaf (1 + 10 * n))) : wfc q ct bo (a :: Γ) := by
  have hbo := gk_bo hg
  intro i A hi
  cases i with
  | zero =>
    cases hi
    refine ⟨_, n, ty_wk hg _ h1 wk_one, ?_⟩
    have := red_shf hbo (n := 1) (b := 0) h2
    rwa [shf_c (by omega)] at this
  | succ i =>
    obtain ⟨S', m, g1, g2⟩ := h i A hi
    have g3 := ty_wk hg _ g1 (wk_one (a := a))
    have e := shf_shf (m := 1) (n := i + 1) (j := 0) (Nat.zero_le _) A (b := 0)
    rw [Nat.zero_add] at e
    rw [e] at g3
    refine ⟨_, m, g3, ?_⟩
    have := red_shf hbo (n := 1) (b := 0) g2
    rwa [shf_c (by omega)] at this
/-- a type has a level -/
theorem ty_lev (hg : Gk q ct bo) (t : tm) : ∀ {T : tm} {Γ : List tm}, wfc q ct bo Γ → tyR q ct bo t Γ T → ∃ S n, tyR q ct bo T Γ S ∧ red bo S (.leaf (1 + 10 * n)) := by
  have hbo := gk_bo hg
  induction t with
  | leaf m =>
    intro T Γ hw h
    rcases h with ⟨h0, A, hA, rfl⟩ | ⟨h1, rfl⟩ | ⟨h5, hq, rfl⟩
    · exact hw _ _ hA
    · refine ⟨.leaf (m + 10 + 10), m / 10 + 2, .inr (.inl ⟨by omega, rfl⟩), ?_⟩
      rw [show m + 10 + 10 = 1 + 10 * (m / 10 + 2) by omega]
      exact red_r _
    · obtain ⟨c1, S, n, g1, g2⟩ := hg.2 _ hq
      have h1 := ty_wk hg _ g1 (wk_nil (Γ := Γ) (n := Γ.length))
      rw [cl_shf _ (Nat.le_refl 0) c1] at h1
      refine ⟨_, n, h1, ?_⟩
      have := red_shf hbo (n := Γ.length) (b := 0) g2
      rwa [shf_c (by omega)] at this
  | branch k a b ha hb =>
    intro T Γ hw h
    rcases h with ⟨rfl, A, x, y, B, h1, h2, h3, h4, rfl⟩ | ⟨hk, A, j, B, h1, h2, h3, h4⟩
    · obtain ⟨S, n, s1, s2⟩ := ha hw h1
      obtain ⟨S', p1, -⟩ := ty_red hg h2 s1
      rcases p1 with ⟨h9, -⟩ | ⟨-, X, i, Y, x1, x2, y1, y2⟩
      · omega
      · rcases y2 with ⟨-, m, y3, -⟩ | ⟨h9, -⟩
        · obtain ⟨T', t1, t2⟩ := ty_sb hg (x := b) (b := 0) (Γ' := Γ) y y1 (by
            intro i E hi
            refine ⟨fun h => absurd h (Nat.not_lt_zero i), fun h => ?_, fun h => ?_⟩
            · subst h
              cases hi
              rw [shf_0, shf_0]
              exact ⟨B, h3, h4⟩
            · cases i with
              | zero => omega
              | succ i => exact ⟨E, hi, conv_r _⟩)
          refine ⟨T', m, t1, conv_univ (conv_t hbo t2 ?_)⟩
          have := red_sbs hbo (b := 0) (red_r b) y3
          rw [sbs_c (by omega)] at this
          exact conv_red this
        · omega
    · rcases h4 with ⟨rfl, i, h5, rfl⟩ | ⟨rfl, rfl⟩
      · refine ⟨.leaf (1 + 10 * Nat.max j i + 10), Nat.max j i + 1, .inr (.inl ⟨by omega, rfl⟩), ?_⟩
        rw [show 1 + 10 * Nat.max j i + 10 = 1 + 10 * (Nat.max j i + 1) by omega]
        exact red_r _
      · obtain ⟨S, n, s1, s2⟩ := hb (wfc_cons hg hw h1 h2) h3
        exact ⟨_, Nat.max j n, .inr ⟨.inl rfl, A, j, S, h1, h2, s1, .inl ⟨rfl, n, s2, rfl⟩⟩, red_r _⟩
/-- a term's types are convertible -/
theorem ty_uniq (hg : Gk q ct bo) (t : tm) : ∀ {T T' : tm} {Γ : List tm}, tyR q ct bo t Γ T → tyR q ct bo t Γ T' → conv bo T T' := by
  have hbo := gk_bo hg
  induction t with
  | leaf m =>
    intro T T' Γ h h'
    rcases h with ⟨h0, A, hA, rfl⟩ | ⟨h1, rfl⟩ | ⟨h5, hq, rfl⟩ <;> rcases h' with ⟨h0', A', hA', rfl⟩ | ⟨h1', rfl⟩ | ⟨h5', hq', rfl⟩ <;> first | omega | (exact conv_r _) | skip
    rw [hA] at hA'
    cases hA'
    exact conv_r _
  | branch k a b ha hb =>
    intro T T' Γ h h'
    rcases h with ⟨rfl, A, x, y, B, h1, h2, h3, h4, rfl⟩ | ⟨hk, A, j, B, h1, h2, h3, h4⟩
    · rcases h' with ⟨-, A', x', y', B', g1, g2, g3, g4, rfl⟩ | ⟨hk, -⟩
      · obtain ⟨-, e⟩ := conv_pipi (conv_t hbo (conv_s (conv_red h2)) (conv_t hbo (ha h1 g1) (conv_red g2)))
        exact conv_sbs hbo (conv_r b) e
      · omega
    · rcases h' with ⟨h9, -⟩ | ⟨-, A', j', B', g1, g2, g3, g4⟩
      · omega
      · have ej : j = j' := conv_uu (conv_t hbo (conv_s (conv_red h2)) (conv_t hbo (ha h1 g1) (conv_red g2)))
        have eB := hb h3 g3
        rcases h4 with ⟨rfl, i, h5, rfl⟩ | ⟨rfl, rfl⟩
        · rcases g4 with ⟨-, i', g5, rfl⟩ | ⟨h9, -⟩
          · have ei : i = i' := conv_uu (conv_t hbo (conv_s (conv_red h5)) (conv_t hbo eB (conv_red g5)))
            rw [ej, ei]
            exact conv_r _
          · omega
        · rcases g4 with ⟨h9, -⟩ | ⟨-, rfl⟩
          · omega
          · exact conv_c (conv_r a) eB
/-- a term whose variables are known has no other, nor has its type -/
theorem ty_cl (hg : Gk q ct bo) (t : tm) : ∀ {T : tm} {Γ : List tm}, (∀ (i : Nat) (A : tm), Γ[i]? = some A → cl (Γ.length - (i + 1)) A) → tyR q ct bo t Γ T → cl Γ.length t ∧ cl Γ.length T := by
  have hbo := gk_bo hg
  induction t with
  | leaf m =>
    intro T Γ hw h
    rcases h with ⟨h0, A, hA, rfl⟩ | ⟨h1, rfl⟩ | ⟨h5, hq, rfl⟩
    · have hlt : m / 10 < Γ.length := (List.getElem?_eq_some_iff.mp hA).1
      refine ⟨fun _ => hlt, ?_⟩
      have := cl_shf2 A (n := m / 10 + 1) (b := 0) (hw _ _ hA)
      rwa [show Γ.length - (m / 10 + 1) + (m / 10 + 1) = Γ.length by omega] at this
    · exact ⟨fun h => by omega, fun h => by omega⟩
    · exact ⟨fun h => by omega, cl_mono _ (Nat.zero_le _) (hg.2 _ hq).1⟩
  | branch k a b ha hb =>
    intro T Γ hw h
    rcases h with ⟨rfl, A, x, y, B, h1, h2, h3, h4, rfl⟩ | ⟨hk, A, j, B, h1, h2, h3, h4⟩
    · obtain ⟨a1, a2⟩ := ha hw h1
      obtain ⟨b1, b2⟩ := hb hw h3
      exact ⟨⟨a1, b1⟩, cl_sbs2 y (Nat.zero_le _) b1 (red_cl hbo h2 a2).2⟩
    · obtain ⟨a1, a2⟩ := ha hw h1
      obtain ⟨b1, b2⟩ := hb (Γ := a :: Γ) (fun i A' hi => by
        cases i with
        | zero =>
          cases hi
          simpa using a1
        | succ i =>
          have := hw i A' hi
          simp only [List.length_cons]
          rwa [show Γ.length + 1 - (i + 1 + 1) = Γ.length - (i + 1) by omega]) h3
      have hb1 : Γ.length + bi k = Γ.length + 1 := by
        unfold bi
        rw [if_neg (by omega)]
      refine ⟨⟨a1, by rw [hb1]; exact b1⟩, ?_⟩
      rcases h4 with ⟨rfl, i, h5, rfl⟩ | ⟨rfl, rfl⟩
      · exact fun h => by omega
      · exact ⟨a1, b2⟩
end Typ
