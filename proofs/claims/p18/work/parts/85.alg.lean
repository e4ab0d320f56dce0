/-! ===== the type finding with fuel, and what has a type ===== -/
section Alg
variable {q : Nat} {ct : Nat → tm} {bo : Nat → Option tm}
theorem fit_in {t T : tm} {n n' : Nat} (h : fit t n = .inr (T, n')) : T = t := by
  unfold fit at h
  split at h
  · cases h
    rfl
  · cases h
theorem fit_no {t : tm} {n : Nat} : fit t n ≠ .inl 2 := by
  unfold fit
  split
  · exact fun h => by cases h
  · exact fun h => by cases h
theorem lev_in {A : tm} {n l n' : Nat} (hA : ∀ {A' : tm} {m : Nat}, hf bo n A = some (A', m) → wft A') (h : lev bo n A = .inr (l, n')) : red bo A (.leaf (1 + 10 * l)) := by
  unfold lev at h
  rcases h1 : hf bo n A with _ | ⟨A', m⟩
  · rw [h1] at h
    cases h
  · rw [h1] at h
    simp only at h
    split at h
    · rename_i h2
      cases h
      obtain ⟨g1, g2⟩ := hf_red n h1
      have hw := hA h1
      cases A' with
      | leaf x =>
        simp only [mk] at h2 ⊢
        rwa [show 1 + 10 * (x / 10) = x by omega]
      | branch k a b =>
        simp only [mk] at h2
        have := hw.1
        omega
    · cases h
theorem lev_no {A : tm} {n j : Nat} (hbo : ∀ i b, bo i = some b → cl 0 b) (h : conv bo A (.leaf (1 + 10 * j))) : lev bo n A ≠ .inl 2 := by
  intro h0
  unfold lev at h0
  rcases h1 : hf bo n A with _ | ⟨A', m⟩
  · rw [h1] at h0
    cases h0
  · rw [h1] at h0
    simp only at h0
    split at h0
    · cases h0
    · rename_i h2
      obtain ⟨g1, g2⟩ := hf_red n h1
      obtain ⟨ps, e, -⟩ := wh_cmp g2 rd_univ (conv_t hbo (conv_s (conv_red g1)) h)
      cases A' with
      | leaf x =>
        simp only [cmp2] at e
        split at e
        · rename_i e2
          subst e2
          simp only [mk] at h2
          omega
        · cases e
      | branch k a b => cases e
end Alg
theorem lev_le {q c : Nat} {bo : Nat → Option tm} (hob : ∀ i b, i < q → bo i = some b → okt 10 q 10 b) (hc : 10 ≤ c) {A : tm} {n l n' : Nat} (hk : okt 10 q c A) (h : lev bo n A = .inr (l, n')) : l ≤ 10 := by
  unfold lev at h
  rcases h1 : hf bo n A with _ | ⟨A', m⟩
  · rw [h1] at h
    cases h
  · rw [h1] at h
    simp only at h
    obtain ⟨kA', -, -, -⟩ := okt_hf hc hob n hk h1
    split at h
    · rename_i h2
      cases h
      exact okt_mk1 kA' h2
    · cases h
/-- what the type finding finds is a type -/
theorem ty_snd {q : Nat} {ct : Nat → tm} {bo : Nat → Option tm} (hq : q ≤ 16) (hg : Gk q ct bo) (hct : ∀ c, c < q → sz (ct c) ≤ 60 ∧ dp (ct c) ≤ 12 ∧ okt 9 q 10 (ct c)) (hob : ∀ i b, i < q → bo i = some b → okt 10 q 10 b) (t : tm) : ∀ {T : tm} {Γ : List tm} {n n' : Nat}, okt 9 q (10 + Γ.length) t → dp t + Γ.length ≤ 12 → (∀ (i : Nat) (A : tm), Γ[i]? = some A → okt 9 q (10 + (Γ.length - 1 - i)) A ∧ dp A ≤ 12) → ty ct bo t Γ n = .inr (T, n') → tyR q ct bo t Γ T ∧ okt 10 q (10 + Γ.length) T ∧ dp T ≤ 12 := by
  have hbo := gk_bo hg
  induction t with
  | leaf m =>
    intro T Γ n n' hk hd hΓ h
    simp only [ty] at h
    by_cases h0 : m % 10 = 0
    · rw [if_pos h0] at h
      rcases hA : Γ[m / 10]? with _ | A
      · rw [hA] at h
        cases h
      · rw [hA] at h
        cases h
        obtain ⟨g1, g2⟩ := hΓ _ _ hA
        have hlt : m / 10 < Γ.length := (List.getElem?_eq_some_iff.mp hA).1
        refine ⟨.inl ⟨h0, A, hA, rfl⟩, ?_, by rw [(sz_shf A).2]; exact g2⟩
        have := okt_mono (by omega : 9 ≤ 10) (Nat.le_refl q) _ (Nat.le_refl _) (okt_shf (n := m / 10 + 1) (b := 0) A g1)
        rwa [show 10 + (Γ.length - 1 - m / 10) + (m / 10 + 1) = 10 + Γ.length by omega] at this
    · rw [if_neg h0] at h
      by_cases h1 : m % 10 = 1
      · rw [if_pos h1] at h
        cases h
        refine ⟨.inr (.inl ⟨h1, rfl⟩), ?_, by simp only [dp]; omega⟩
        simp only [okt] at hk ⊢
        omega
      · rw [if_neg h1] at h
        cases h
        simp only [okt] at hk
        have hq2 : m / 10 < q := by omega
        obtain ⟨c1, c2, c3⟩ := hct _ hq2
        exact ⟨.inr (.inr ⟨by omega, hq2, rfl⟩), okt_mono (by omega) (Nat.le_refl q) _ (by omega) c3, c2⟩
  | branch k a b ha hb =>
    intro T Γ n n' hk hd hΓ h
    have d1 : dp a ≤ Nat.max (dp a) (dp b) := Nat.le_max_left _ _
    have d2 : dp b ≤ Nat.max (dp a) (dp b) := Nat.le_max_right _ _
    simp only [dp] at hd
    have hkk := hk.1
    simp only [ty] at h
    rcases h1 : ty ct bo a Γ n with e | ⟨A, n1⟩
    · rw [h1] at h
      cases h
    · rw [h1] at h
      simp only at h
      obtain ⟨tA, kA, dA⟩ := ha hk.2.1 (by omega) hΓ h1
      by_cases h4 : k = 4
      · subst h4
        rw [if_pos rfl] at h
        rcases h2 : hf bo n1 A with _ | ⟨A', n2⟩
        · rw [h2] at h
          cases h
        · rw [h2] at h
          simp only at h
          obtain ⟨g1, g2⟩ := hf_red n1 h2
          obtain ⟨kA', -, -, -⟩ := okt_hf (by omega) hob n1 kA h2
          rcases h3 : pi2 A' with _ | ⟨x, y⟩
          · rw [h3] at h
            cases h
          · rw [h3] at h
            simp only at h
            have eA := pi2_some h3
            subst eA
            rcases h5 : ty ct bo b Γ n2 with e | ⟨B, n3⟩
            · rw [h5] at h
              cases h
            · rw [h5] at h
              simp only at h
              have hk2 : okt 9 q (10 + Γ.length) b := hk.2.2
              obtain ⟨tB, kB, dB⟩ := hb hk2 (by omega) hΓ h5
              rcases h6 : sw bo 2000 n3 [(B, x)] with _ | _ | ⟨bb, n4⟩
              · rw [h6] at h
                cases h
              · rw [h6] at h
                cases h
              · rw [h6] at h
                cases bb with
                | false => cases h
                | true =>
                  simp only [cmpT] at h
                  have eT := fit_in h
                  subst eT
                  have hc := sw_yes hbo 2000 h6 (B, x) (List.mem_cons_self ..)
                  have hd12 : dp (sbs b 0 y) ≤ 12 := by
                    unfold fit at h
                    split at h
                    · rename_i hh
                      exact hh.2
                    · cases h
                  refine ⟨.inl ⟨rfl, A, x, y, B, tA, g1, tB, hc, rfl⟩, ?_, hd12⟩
                  have hy : okt 10 q (10 + Γ.length + 1) y := kA'.2.2
                  exact okt_sbs y (Nat.zero_le _) (okt_mono (by omega) (Nat.le_refl q) b (by omega) hk2) hy
      · rw [if_neg h4] at h
        have hb1 : bi k = 1 := if_neg h4
        rcases h2 : lev bo n1 A with e | ⟨l1, n2⟩
        · rw [h2] at h
          cases h
        · rw [h2] at h
          simp only at h
          have hA' := lev_in (fun {A'} {m} h9 => by
            obtain ⟨kA', -, hh, -⟩ := okt_hf (by omega) hob n1 kA h9
            refine okt_wft (by omega) (by omega) A' kA' ?_
            rcases hh with ⟨rfl, -⟩ | ⟨-, hh, -⟩ <;> omega) h2
          rcases h5 : ty ct bo b (a :: Γ) n2 with e | ⟨B, n3⟩
          · rw [h5] at h
            cases h
          · rw [h5] at h
            simp only at h
            have hk2 : okt 9 q (10 + (a :: Γ).length) b := by
              have := hk.2.2
              rw [hb1] at this
              exact this
            obtain ⟨tB, kB, dB⟩ := hb (Γ := a :: Γ) hk2 (by simp only [List.length_cons]; omega) (fun i A' hi => by
              cases i with
              | zero =>
                cases hi
                refine ⟨?_, by omega⟩
                simp only [List.length_cons]
                rw [show Γ.length + 1 - 1 - 0 = Γ.length by omega]
                exact hk.2.1
              | succ i =>
                have := hΓ i A' hi
                simp only [List.length_cons]
                rwa [show Γ.length + 1 - 1 - (i + 1) = Γ.length - 1 - i by omega]) h5
            by_cases hk2 : k = 2
            · subst hk2
              rw [if_pos rfl] at h
              rcases h6 : lev bo n3 B with e | ⟨l2, n4⟩
              · rw [h6] at h
                cases h
              · rw [h6] at h
                cases h
                have hB' := lev_in (fun {A'} {m} h9 => by
                  obtain ⟨kA', -, hh, -⟩ := okt_hf (by omega) hob n3 kB h9
                  refine okt_wft (by omega) (by omega) A' kA' ?_
                  simp only [List.length_cons]
                  rcases hh with ⟨rfl, -⟩ | ⟨-, hh, -⟩ <;> omega) h6
                refine ⟨.inr ⟨.inl rfl, A, l1, B, tA, hA', tB, .inl ⟨rfl, l2, hB', rfl⟩⟩, ?_, by simp only [dp]; omega⟩
                have x1 := lev_le hob (by omega : 10 ≤ 10 + Γ.length) kA h2
                have x2 := lev_le hob (by simp only [List.length_cons]; omega : 10 ≤ 10 + (a :: Γ).length) kB h6
                have x3 : Nat.max l1 l2 ≤ 10 := Nat.max_le.mpr ⟨x1, x2⟩
                simp only [okt]
                omega
            · rw [if_neg hk2] at h
              have h3 : k = 3 := by omega
              subst h3
              have eT := fit_in h
              subst eT
              have hd12 : dp (.branch 2 a B) ≤ 12 := by
                unfold fit at h
                split at h
                · rename_i hh
                  exact hh.2
                · cases h
              exact ⟨.inr ⟨.inr rfl, A, l1, B, tA, hA', tB, .inr ⟨rfl, rfl⟩⟩, ⟨.inl rfl, okt_mono (by omega) (Nat.le_refl q) a (Nat.le_refl _) hk.2.1, kB⟩, hd12⟩

/-- and where there is a type, it isn't wrong -/
theorem ty_cmp {q : Nat} {ct : Nat → tm} {bo : Nat → Option tm} (hq : q ≤ 16) (hg : Gk q ct bo) (hct : ∀ c, c < q → sz (ct c) ≤ 60 ∧ dp (ct c) ≤ 12 ∧ okt 9 q 10 (ct c)) (hob : ∀ i b, i < q → bo i = some b → okt 10 q 10 b) (t : tm) : ∀ {T : tm} {Γ : List tm} {n : Nat}, okt 9 q (10 + Γ.length) t → dp t + Γ.length ≤ 12 → (∀ (i : Nat) (A : tm), Γ[i]? = some A → okt 9 q (10 + (Γ.length - 1 - i)) A ∧ dp A ≤ 12) → tyR q ct bo t Γ T → ty ct bo t Γ n ≠ .inl 2 := by
  have hbo := gk_bo hg
  induction t with
  | leaf m =>
    intro T Γ n hk hd hΓ h h0
    simp only [ty] at h0
    rcases h with ⟨x0, A, hA, rfl⟩ | ⟨x1, rfl⟩ | ⟨x5, hq, rfl⟩
    · rw [if_pos x0, hA] at h0
      cases h0
    · rw [if_neg (by omega), if_pos x1] at h0
      cases h0
    · rw [if_neg (by omega), if_neg (by omega)] at h0
      cases h0
  | branch k a b ha hb =>
    intro T Γ n hk hd hΓ h h0
    have d1 : dp a ≤ Nat.max (dp a) (dp b) := Nat.le_max_left _ _
    have d2 : dp b ≤ Nat.max (dp a) (dp b) := Nat.le_max_right _ _
    simp only [dp] at hd
    simp only [ty] at h0
    rcases h with ⟨rfl, A0, x0, y0, B0, t1, t2, t3, t4, rfl⟩ | ⟨hkk, A0, j, B0, t1, t2, t3, t4⟩
    · rcases h1 : ty ct bo a Γ n with e | ⟨A, n1⟩
      · rw [h1] at h0
        cases h0
        exact ha hk.2.1 (by omega) hΓ t1 h1
      · rw [h1] at h0
        simp only at h0
        rw [if_pos trivial] at h0
        obtain ⟨tA, kA, dA⟩ := ty_snd hq hg hct hob a hk.2.1 (by omega) hΓ h1
        have cA : conv bo A (.branch 2 x0 y0) := conv_t hbo (ty_uniq hg a tA t1) (conv_red t2)
        rcases h2 : hf bo n1 A with _ | ⟨A', n2⟩
        · rw [h2] at h0
          cases h0
        · rw [h2] at h0
          simp only at h0
          obtain ⟨g1, g2⟩ := hf_red n1 h2
          obtain ⟨ps, e, hps⟩ := wh_cmp g2 (rd_no (k := 2) (by omega)) (conv_t hbo (conv_s (conv_red g1)) cA)
          cases A' with
          | leaf m => cases e
          | branch k' x y =>
            simp only [cmp2] at e
            split at e
            · rename_i e2
              cases e
              subst e2
              have e3 : pi2 (.branch 2 x y) = some (x, y) := rfl
              rw [e3] at h0
              simp only at h0
              have hx : conv bo x x0 := hps (x, x0) (List.mem_cons_self ..)
              have hk2 : okt 9 q (10 + Γ.length) b := hk.2.2
              rcases h5 : ty ct bo b Γ n2 with e | ⟨B, n3⟩
              · rw [h5] at h0
                cases h0
                exact hb hk2 (by omega) hΓ t3 h5
              · rw [h5] at h0
                simp only at h0
                obtain ⟨tB, kB, dB⟩ := ty_snd hq hg hct hob b hk2 (by omega) hΓ h5
                have cB : conv bo B x := conv_t hbo (ty_uniq hg b tB t3) (conv_t hbo t4 (conv_s hx))
                rcases h6 : sw bo 2000 n3 [(B, x)] with _ | _ | ⟨bb, n4⟩
                · rw [h6] at h0
                  cases h0
                · rw [h6] at h0
                  cases h0
                · cases bb with
                  | false =>
                    refine sw_no hbo 2000 (fun p hp => ?_) h6
                    rcases List.mem_cons.mp hp with rfl | hp
                    · exact cB
                    · cases hp
                  | true =>
                    rw [h6] at h0
                    exact fit_no h0
            · cases e
    · have h4 : k ≠ 4 := by omega
      have hb1 : bi k = 1 := if_neg h4
      rcases h1 : ty ct bo a Γ n with e | ⟨A, n1⟩
      · rw [h1] at h0
        cases h0
        exact ha hk.2.1 (by omega) hΓ t1 h1
      · rw [h1] at h0
        simp only at h0
        rw [if_neg h4] at h0
        obtain ⟨tA, kA, dA⟩ := ty_snd hq hg hct hob a hk.2.1 (by omega) hΓ h1
        have cA : conv bo A (.leaf (1 + 10 * j)) := conv_t hbo (ty_uniq hg a tA t1) (conv_red t2)
        rcases h2 : lev bo n1 A with e | ⟨l1, n2⟩
        · rw [h2] at h0
          cases h0
          exact lev_no hbo cA h2
        · rw [h2] at h0
          simp only at h0
          have hk2 : okt 9 q (10 + (a :: Γ).length) b := by
            have := hk.2.2
            rw [hb1] at this
            exact this
          have hΓ2 : ∀ (i : Nat) (A : tm), (a :: Γ)[i]? = some A → okt 9 q (10 + ((a :: Γ).length - 1 - i)) A ∧ dp A ≤ 12 := fun i A' hi => by
            cases i with
            | zero =>
              cases hi
              refine ⟨?_, by omega⟩
              simp only [List.length_cons]
              rw [show Γ.length + 1 - 1 - 0 = Γ.length by omega]
              exact hk.2.1
            | succ i =>
              have := hΓ i A' hi
              simp only [List.length_cons]
              rwa [show Γ.length + 1 - 1 - (i + 1) = Γ.length - 1 - i by omega]
          have hd2 : dp b + (a :: Γ).length ≤ 12 := by
            simp only [List.length_cons]
            omega
          rcases h5 : ty ct bo b (a :: Γ) n2 with e | ⟨B, n3⟩
          · rw [h5] at h0
            cases h0
            exact hb hk2 hd2 hΓ2 t3 h5
          · rw [h5] at h0
            simp only at h0
            by_cases hk9 : k = 2
            · subst hk9
              rw [if_pos rfl] at h0
              rcases t4 with ⟨-, i, t5, rfl⟩ | ⟨h9, -⟩
              · obtain ⟨tB, kB, dB⟩ := ty_snd hq hg hct hob b hk2 hd2 hΓ2 h5
                have cB : conv bo B (.leaf (1 + 10 * i)) := conv_t hbo (ty_uniq hg b tB t3) (conv_red t5)
                rcases h6 : lev bo n3 B with e | ⟨l2, n4⟩
                · rw [h6] at h0
                  cases h0
                  exact lev_no hbo cB h6
                · rw [h6] at h0
                  cases h0
              · omega
            · rw [if_neg hk9] at h0
              exact fit_no h0
/-- more constants keep all that was -/
theorem ty_ext {q q' : Nat} {ct ct' : Nat → tm} {bo bo' : Nat → Option tm} (hq : q ≤ q') (h1 : ∀ c, c < q → ct' c = ct c) (h2 : ∀ i b, bo i = some b → bo' i = some b) (t : tm) : ∀ {Γ : List tm} {T : tm}, tyR q ct bo t Γ T → tyR q' ct' bo' t Γ T := by
  induction t with
  | leaf m =>
    intro Γ T h
    rcases h with h | h | ⟨h5, hm, rfl⟩
    · exact .inl h
    · exact .inr (.inl h)
    · exact .inr (.inr ⟨h5, by omega, (h1 _ hm).symm⟩)
  | branch k a b ha hb =>
    intro Γ T h
    rcases h with ⟨rfl, A, x, y, B, g1, g2, g3, g4, rfl⟩ | ⟨hk, A, j, B, g1, g2, g3, g4⟩
    · exact .inl ⟨rfl, A, x, y, B, ha g1, red_mono h2 g2, hb g3, conv_mono h2 g4, rfl⟩
    · refine .inr ⟨hk, A, j, B, ha g1, red_mono h2 g2, hb g3, ?_⟩
      rcases g4 with ⟨rfl, i, g5, rfl⟩ | h
      · exact .inl ⟨rfl, i, red_mono h2 g5, rfl⟩
      · exact .inr h
/-- a new constant -/
theorem gk_new {q : Nat} {ct : Nat → tm} {bo : Nat → Option tm} (hg : Gk q ct bo) {R S : tm} {n : Nat} {ob : Option tm} (hR : cl 0 R) (hS : tyR q ct bo R [] S) (hn : red bo S (.leaf (1 + 10 * n))) (hb : ∀ b, ob = some b → cl 0 b ∧ ∃ B, tyR q ct bo b [] B ∧ conv bo B R) :
    Gk (q + 1) (fun c => if c = q then R else ct c) (fun c => if c = q then ob else bo c) := by
  have e1 : ∀ c, c < q → (fun c => if c = q then R else ct c) c = ct c := fun c hc => if_neg (by omega)
  have e2 : ∀ i b, bo i = some b → (fun c => if c = q then ob else bo c) i = some b := fun i b h => by
    have := (hg.1 i b h).1
    show (if i = q then ob else bo i) = some b
    rw [if_neg (by omega)]
    exact h
  refine ⟨fun i b h => ?_, fun c hc => ?_⟩
  · have h : (if i = q then ob else bo i) = some b := h
    by_cases hi : i = q
    · rw [if_pos hi] at h
      obtain ⟨x1, B, x2, x3⟩ := hb b h
      refine ⟨by omega, x1, B, ty_ext (Nat.le_succ q) e1 e2 b x2, ?_⟩
      show conv _ B (if i = q then R else ct i)
      rw [if_pos hi]
      exact conv_mono e2 x3
    · rw [if_neg hi] at h
      obtain ⟨x0, x1, B, x2, x3⟩ := hg.1 i b h
      refine ⟨by omega, x1, B, ty_ext (Nat.le_succ q) e1 e2 b x2, ?_⟩
      show conv _ B (if i = q then R else ct i)
      rw [if_neg hi]
      exact conv_mono e2 x3
  · show cl 0 (if c = q then R else ct c) ∧ ∃ S n, tyR _ _ _ (if c = q then R else ct c) [] S ∧ _
    by_cases hi : c = q
    · rw [if_pos hi]
      exact ⟨hR, S, n, ty_ext (Nat.le_succ q) e1 e2 R hS, red_mono e2 hn⟩
    · rw [if_neg hi]
      obtain ⟨x1, S', n', x2, x3⟩ := hg.2 c (by omega)
      exact ⟨x1, S', n', ty_ext (Nat.le_succ q) e1 e2 _ x2, red_mono e2 x3⟩
