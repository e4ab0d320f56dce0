theorem okt_hf {q c : Nat} {bo : Nat → Option tm} (hc : 10 ≤ c) (hbo : ∀ i b, i < q → bo i = some b → okt 10 q 10 b) : ∀ (n : Nat) {t t' : tm} {n' : Nat}, okt 10 q c t → hf bo n t = some (t', n') → okt 10 q c t' ∧ n' ≤ n ∧ ((t' = t ∧ n' = n) ∨ (sz t' ≤ 60 ∧ dp t' ≤ 12 ∧ n' < n)) ∧ rd bo t' = none := by
  intro n
  induction n with
  | zero =>
    intro t t' n' h e
    rcases hr : rd bo t with _ | t1
    · simp only [hf, hr, Option.some.injEq, Prod.mk.injEq] at e
      obtain ⟨rfl, rfl⟩ := e
      exact ⟨h, Nat.le_refl _, .inl ⟨rfl, rfl⟩, hr⟩
    · simp only [hf, hr, reduceCtorEq] at e
  | succ n ih =>
    intro t t' n' h e
    rcases hr : rd bo t with _ | t1
    · simp only [hf, hr, Option.some.injEq, Prod.mk.injEq] at e
      obtain ⟨rfl, rfl⟩ := e
      exact ⟨h, Nat.le_refl _, .inl ⟨rfl, rfl⟩, hr⟩
    · simp only [hf, hr] at e
      split at e
      · rename_i hb
        have h1 := okt_rd hc hbo t h hr
        obtain ⟨h2, h3, h4, h5⟩ := ih h1 e
        refine ⟨h2, by omega, .inr ?_, h5⟩
        rcases h4 with ⟨rfl, rfl⟩ | h4
        · exact ⟨hb.1, hb.2, by omega⟩
        · exact ⟨h4.1, h4.2.1, by omega⟩
      · cases e
theorem bod_okt {q : Nat} {G : cG} {B : cB} {bo : Nat → Option tm} (hb : Bod q G B bo) : ∀ i b, i < q → bo i = some b → okt 10 q 10 b := fun i b hi hbi => by
  have := (hb i hi).2
  rw [hbi] at this
  exact this.2.2.2.2
theorem q_toHead_l {fl : Nat} (hfl : 10000 ≤ fl) {q : Nat} {G : cG} {bo : Nat → Option tm} {r f c : Nat} (hc : 10 ≤ c) (hc2 : c < 900) (hq : q ≤ 16) (hr : r < 80) (hf30 : f ≤ 30) (n : Nat) : ∀ {B : cB} {O : cO} {J : cJ} {u : Nat} {t : tm}, Bod q G B bo → okt 10 q c t → sz t ≤ 60 → dp t ≤ 12 → Row B r t → u + n = f →
    ∃ B' O' J', (∀ r', r' ≠ r → Sm B B' r') ∧ match hf bo n t with
      | some (t', n') => Row B' r t' ∧ ∀ w, lp_fm_toHead_13 fl (w + n + 1) G B O J (jn f, jn u, jn 0) (jn r) (jn 1) = some (B', O', J', (jn f, jn (f - n'), jn 0))
      | none => ∃ u', ∀ w, lp_fm_toHead_13 fl (w + n + 1) G B O J (jn f, jn u, jn 0) (jn r) (jn 1) = some (B', O', J', (jn f, u', jn 3)) := by
  induction n with
  | zero =>
    intro B O J u t hb hk h60 hd hrow hu
    obtain ⟨h1, h2⟩ := q_step hfl hc hc2 hq hb hr hk h60 hd hrow (by omega : u ≤ f) hf30 (O := O) (J := J)
    rcases hrd : rd bo t with _ | t'
    · obtain ⟨O', J', he⟩ := h1 hrd
      refine ⟨B, O', J', fun _ _ => sm_refl _ _, ?_⟩
      simp only [hf, hrd]
      exact ⟨hrow, fun w => by rw [show f - 0 = u by omega]; exact he w⟩
    · obtain ⟨O', J', he⟩ := (h2 t' hrd).1 (by omega)
      refine ⟨B, O', J', fun _ _ => sm_refl _ _, ?_⟩
      simp only [hf, hrd]
      exact ⟨_, he⟩
  | succ n ih =>
    intro B O J u t hb hk h60 hd hrow hu
    obtain ⟨h1, h2⟩ := q_step hfl hc hc2 hq hb hr hk h60 hd hrow (by omega : u ≤ f) hf30 (O := O) (J := J)
    rcases hrd : rd bo t with _ | t'
    · obtain ⟨O', J', he⟩ := h1 hrd
      refine ⟨B, O', J', fun _ _ => sm_refl _ _, ?_⟩
      simp only [hf, hrd]
      exact ⟨hrow, fun w => by rw [show f - (n + 1) = u by omega]; exact he (w + (n + 1))⟩
    · obtain ⟨B1, O1, J1, hsm, h3 | h3⟩ := (h2 t' hrd).2 (by omega)
      · obtain ⟨hs1, hd1, hr1, he1⟩ := h3
        have hb1 : Bod q G B1 bo := bod_sm hb fun r' h _ => hsm r' (by omega)
        obtain ⟨B2, O2, J2, hsm2, hm2⟩ := ih (O := O1) (J := J1) (u := u + 1) hb1 (okt_rd hc (bod_okt hb) t hk hrd) hs1 hd1 hr1 (by omega)
        refine ⟨B2, O2, J2, fun r' h => sm_trans (hsm r' h) (hsm2 r' h), ?_⟩
        simp only [hf, hrd, if_pos (And.intro hs1 hd1)]
        split
        · rename_i t2 n2 e
          rw [e] at hm2
          exact ⟨hm2.1, fun w => by rw [show w + (n + 1) + 1 = w + n + 1 + 1 by omega, he1]; exact hm2.2 w⟩
        · rename_i e
          rw [e] at hm2
          obtain ⟨u', hm2⟩ := hm2
          exact ⟨u', fun w => by rw [show w + (n + 1) + 1 = w + n + 1 + 1 by omega, he1]; exact hm2 w⟩
      · obtain ⟨hnb, he1⟩ := h3
        refine ⟨B1, O1, J1, hsm, ?_⟩
        simp only [hf, hrd, if_neg hnb]
        exact ⟨_, fun w => he1 (w + (n + 1))⟩
theorem q_toHead {fl : Nat} (hfl : 10000 ≤ fl) {q : Nat} {G : cG} {bo : Nat → Option tm} {r f c n : Nat} (hc : 10 ≤ c) (hc2 : c < 900) (hq : q ≤ 16) (hr : r < 80) (hf30 : f ≤ 30) {B : cB} {O : cO} {J : cJ} {t : tm} (hb : Bod q G B bo) (hk : okt 10 q c t) (h60 : sz t ≤ 60) (hd : dp t ≤ 12) (hrow : Row B r t) (hn : n ≤ f) :
    ∃ B' O' J', (∀ r', r' ≠ r → Sm B B' r') ∧ match hf bo n t with
      | some (t', n') => Row B' r t' ∧ fm_toHead fl G B O J (jn f, jn (f - n), jn 0) (jn r) = some (B', O', J', (jn f, jn (f - n'), jn 0))
      | none => ∃ u', fm_toHead fl G B O J (jn f, jn (f - n), jn 0) (jn r) = some (B', O', J', (jn f, u', jn 3)) := by
  obtain ⟨B', O', J', hsm, hm⟩ := q_toHead_l hfl hc hc2 hq hr hf30 n (O := O) (J := J) (u := f - n) hb hk h60 hd hrow (by omega)
  have e0 : fm_toHead fl G B O J (jn f, jn (f - n), jn 0) (jn r) = lp_fm_toHead_13 fl fl G B O J (jn f, jn (f - n), jn 0) (jn r) (jn 1) := by
    unfold fm_toHead
    simp (disch := omega) only [jlo, jl0, jl1, jl2, jl3, jl4, jl5, jl9, jl10, jl12, jl16, jl30, jl60, jl63, jl64, jl80, jl100, jl120, jl512, jlM, jlm, j_lt, j_le, j_eq, j_add, j_mul, j_div, j_mod, j_sub, j_m1, j_nelt, j_melt, j_nele, j_mele, j_neeq, j_meeq, j_nat, j_bz0, j_bz1, jc_le0, jc_le1, jc_lt0, jc_lt1, jc_eq0, jc_eq1, Nat.not_lt_zero, Nat.zero_le, ne_eq, false_or, or_false, true_or, or_true, not_false_eq_true, not_true_eq_false, ↓reduceIte, Option.bind_some, Nat.add_sub_cancel, Nat.add_sub_cancel_left, reduceCtorEq, Option.some.injEq, Prod.mk.injEq, true_and, and_true, decide_true, decide_false, Bool.true_eq_false, Bool.false_eq_true, Bool.not_eq_true, Bool.not_eq_false]
  have e1 : fl = fl - n - 1 + n + 1 := by omega
  refine ⟨B', O', J', hsm, ?_⟩
  rw [e0]
  split
  · rename_i t2 n2 e
    rw [e] at hm
    refine ⟨hm.1, ?_⟩
    have := hm.2 (fl - n - 1)
    rwa [← e1] at this
  · rename_i e
    rw [e] at hm
    obtain ⟨u', hm⟩ := hm
    refine ⟨u', ?_⟩
    have := hm (fl - n - 1)
    rwa [← e1] at this
/-- with a fault, nothing -/
theorem q_toHead_x {fl : Nat} (hfl : 10000 ≤ fl) {G : cG} {r x : Nat} {B : cB} {O : cO} {J : cJ} {vf vu : Int32} (hx : x = 2 ∨ x = 3) : fm_toHead fl G B O J (vf, vu, jn x) (jn r) = some (B, O, J, (vf, vu, jn x)) := by
  obtain ⟨w, rfl⟩ : ∃ w, fl = w + 1 := ⟨fl - 1, by omega⟩
  unfold fm_toHead
  simp (disch := omega) only [jlo, jl0, jl1, jl2, jl3, jl4, jl5, jl9, jl10, jl12, jl16, jl30, jl60, jl63, jl64, jl80, jl100, jl120, jl512, jlM, jlm, j_lt, j_le, j_eq, j_add, j_mul, j_div, j_mod, j_sub, j_m1, j_nelt, j_melt, j_nele, j_mele, j_neeq, j_meeq, j_nat, j_bz0, j_bz1, jc_le0, jc_le1, jc_lt0, jc_lt1, jc_eq0, jc_eq1, Nat.not_lt_zero, Nat.zero_le, ne_eq, false_or, or_false, true_or, or_true, not_false_eq_true, not_true_eq_false, ↓reduceIte, Option.bind_some, Nat.add_sub_cancel, Nat.add_sub_cancel_left, reduceCtorEq, Option.some.injEq, Prod.mk.injEq, true_and, and_true, decide_true, decide_false, Bool.true_eq_false, Bool.false_eq_true, Bool.not_eq_true, Bool.not_eq_false]
  rw [lp_fm_toHead_13]
  exact if_pos rfl
