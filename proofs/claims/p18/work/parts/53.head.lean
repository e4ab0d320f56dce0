/-- the part down the left side -/
def lf : tm → Nat → tm
  | t, 0 => t
  | .leaf m, _ + 1 => .leaf m
  | .branch _ l _, i + 1 => lf l i
def sub (v : tm) : tm → Nat → tm
  | _, 0 => v
  | .leaf m, _ + 1 => .leaf m
  | .branch k l r, i + 1 => .branch k (sub v l i) r
def Pl (N : cN) : Nat → Nat → Nat → Prop
  | p, 0, z => z = p
  | p, i + 1, z => ∃ a, N.2.1 p = jn a ∧ a < 65536 ∧ Pl N a i z
theorem lf_rp {N : cN} (hN : NI N) (i : Nat) : ∀ {p z : Nat} {t : tm}, Rp N p t → i ≤ ap t → Pl N p i z → Rp N z (lf t i) := by
  induction i with
  | zero =>
    intro p z t h _ hz
    have hz : z = p := hz
    subst hz
    cases t <;> exact h
  | succ i ih =>
    intro p z t h hi hz
    cases t with
    | leaf m => simp only [ap] at hi; omega
    | branch k l r =>
      obtain ⟨a, e, ha, hz⟩ := hz
      obtain ⟨-, -, -, -, a', b', g5, g6, g7, g8⟩ := h
      have la := (vd_lt hN (rp_vd g7)).2
      have ea := g5.symm.trans e
      rw [j_eq (by omega) (by omega)] at ea
      subst ea
      by_cases hk : k = 4
      · simp only [ap, if_pos hk] at hi
        exact ih g7 (by omega) hz
      · simp only [ap, if_neg hk] at hi
        omega
theorem lf_sz (i : Nat) : ∀ {t : tm}, i ≤ ap t → sz (lf t i) + i ≤ sz t := by
  induction i with
  | zero => intro t _; cases t <;> exact Nat.le_refl _
  | succ i ih =>
    intro t hi
    cases t with
    | leaf m => simp only [ap] at hi; omega
    | branch k l r =>
      by_cases hk : k = 4
      · simp only [ap, if_pos hk] at hi
        have := ih (t := l) (by omega)
        simp only [lf, sz]
        omega
      · simp only [ap, if_neg hk] at hi
        omega
/-- another head, in the nodes -/
theorem c_withHead (i : Nat) : ∀ {N : cN} {k n p z o d : Nat} {t v : tm}, NI N → wft t → Rp N p t → i ≤ ap t → Pl N p i z → Rp N o v → i < d → nen N + i ≤ 32000 → sz t < 1000 → sz v < 50000 →
    ∃ N' k' n' p', fN_withHead d N k n (jn p) (jn z) (jn o) = some (jn p', N', (k', n')) ∧ Nst N k n N' k' n' ∧ nen N' ≤ nen N + i ∧ Rp N' p' (sub v t i) ∧ sz (sub v t i) ≤ sz t + sz v := by
  induction i with
  | zero =>
    intro N k n p z o d t v hN hw h hi hz ho hd he hs hv
    have hz : z = p := hz
    subst hz
    obtain ⟨d, rfl⟩ : ∃ d', d = d' + 1 := ⟨d - 1, by omega⟩
    refine ⟨N, k, n, o, ?_, nst_refl hN k n, Nat.le_refl _, ?_, ?_⟩
    · rw [fN_withHead]
      exact if_pos rfl
    · cases t <;> exact ho
    · cases t <;> simp only [sub] <;> omega
  | succ i ih =>
    intro N k n p z o d t v hN hw h hi hz ho hd he hs hv
    obtain ⟨d, rfl⟩ : ∃ d', d = d' + 1 := ⟨d - 1, by omega⟩
    cases t with
    | leaf m => simp only [ap] at hi; omega
    | branch kk l r =>
      by_cases hk : kk = 4
      · subst hk
        have hz0 := hz
        have hzr := lf_rp hN (i + 1) h hi hz
        have hzs := lf_sz (i + 1) hi
        have s1 := (rp_sz hzr).1
        have s2 := (rp_sz h).1
        have hp6 := (vd_lt hN (rp_vd h)).2
        have hz6 := (vd_lt hN (rp_vd hzr)).2
        have hne : ¬ p = z := by
          intro e
          subst e
          have := s1.symm.trans s2
          rw [j_eq (by omega) (by omega)] at this
          omega
        obtain ⟨a, e, ha6, hz⟩ := hz
        simp only [ap, if_pos] at hi
        simp only [sz] at hs
        have h1 := c_kind' hN h hw
        simp only [mk, Nat.reduceMod] at h1
        obtain ⟨q1, q2, -, -⟩ := c_left hN (rp_vd h)
        rw [e] at q1
        have hb := h
        obtain ⟨-, -, -, -, a', b', g5, g6, g7, g8⟩ := hb
        have la := (vd_lt hN (rp_vd g7)).2
        have lb := (vd_lt hN (rp_vd g8)).2
        have ea := g5.symm.trans e
        rw [j_eq (by omega) (by omega)] at ea
        subst ea
        obtain ⟨N1, k1, n1, p1, e1, t1, c1, r1, z1⟩ := ih (k := k) (n := n) (d := d) hN hw.2.1 g7 (by omega) hz ho (by omega) (by omega) (by omega) hv
        have hv1 := ex_vd t1.2.1 (rp_vd h)
        have hr1 := rp_ex t1.2.1 r g8
        obtain ⟨q3, q4, -, -⟩ := c_left t1.1 hv1
        have e4 : N1.2.2.1 p = jn b' := ((t1.2.1.2.2.2.2 p (rp_vd h)).2.2.1).trans g6
        rw [e4] at q4
        obtain ⟨N2, k2, n2, e2, t2, c2, r2⟩ := c_addb t1.1 (by omega) k1 n1 4 r1 hr1 (by omega) (by omega)
        refine ⟨N2, k2, n2, nen N1, ?_, nst_trans t1 t2, by omega, r2, by simp only [sub, sz]; omega⟩
        rw [fN_withHead]
        (repeat (first | (with_reducible refine ifn ?_ ?_; (focus (simp (disch := omega) only [jlo, jl0, jl1, jl2, jl3, jl4, jl5, jl9, jl10, jl12, jl16, jl30, jl60, jl63, jl64, jl80, jl100, jl120, jl512, jlM, jlm, j_lt, j_le, j_eq, j_add, j_mul, j_div, j_mod, j_sub, j_m1, j_nelt, j_melt, j_nele, j_mele, j_neeq, j_meeq, j_nat, j_bz0, j_bz1, jc_le0, jc_le1, jc_lt0, jc_lt1, jc_eq0, jc_eq1, Nat.not_lt_zero, Nat.zero_le, ne_eq, false_or, or_false, true_or, or_true, not_false_eq_true, not_true_eq_false, ↓reduceIte, Option.bind_some, Nat.add_sub_cancel, Nat.add_sub_cancel_left, reduceCtorEq, Option.some.injEq, Prod.mk.injEq, true_and, and_true, decide_true, decide_false, Bool.true_eq_false, Bool.false_eq_true, Bool.not_eq_true, Bool.not_eq_false, h1, q1, e1, q4, e2]; done))) | (with_reducible refine ifp ?_ ?_; (focus (simp (disch := omega) only [jlo, jl0, jl1, jl2, jl3, jl4, jl5, jl9, jl10, jl12, jl16, jl30, jl60, jl63, jl64, jl80, jl100, jl120, jl512, jlM, jlm, j_lt, j_le, j_eq, j_add, j_mul, j_div, j_mod, j_sub, j_m1, j_nelt, j_melt, j_nele, j_mele, j_neeq, j_meeq, j_nat, j_bz0, j_bz1, jc_le0, jc_le1, jc_lt0, jc_lt1, jc_eq0, jc_eq1, Nat.not_lt_zero, Nat.zero_le, ne_eq, false_or, or_false, true_or, or_true, not_false_eq_true, not_true_eq_false, ↓reduceIte, Option.bind_some, Nat.add_sub_cancel, Nat.add_sub_cancel_left, reduceCtorEq, Option.some.injEq, Prod.mk.injEq, true_and, and_true, decide_true, decide_false, Bool.true_eq_false, Bool.false_eq_true, Bool.not_eq_true, Bool.not_eq_false, h1, q1, e1, q4, e2]; done))) | (with_reducible apply bnd1; (focus ((try simp (disch := omega) only [jlo, jl0, jl1, jl2, jl3, jl4, jl5, jl9, jl10, jl12, jl16, jl30, jl60, jl63, jl64, jl80, jl100, jl120, jl512, jlM, jlm, j_lt, j_le, j_eq, j_add, j_mul, j_div, j_mod, j_sub, j_m1, j_nelt, j_melt, j_nele, j_mele, j_neeq, j_meeq, j_nat, j_bz0, j_bz1, jc_le0, jc_le1, jc_lt0, jc_lt1, jc_eq0, jc_eq1, Nat.not_lt_zero, Nat.zero_le, ne_eq, false_or, or_false, true_or, or_true, not_false_eq_true, not_true_eq_false, ↓reduceIte, Option.bind_some, Nat.add_sub_cancel, Nat.add_sub_cancel_left, reduceCtorEq, Option.some.injEq, Prod.mk.injEq, true_and, and_true, decide_true, decide_false, Bool.true_eq_false, Bool.false_eq_true, Bool.not_eq_true, Bool.not_eq_false, h1, q1, e1, q4, e2]); exact rfl)); with_reducible refine bnd rfl ?_)))
        rfl
      · simp only [ap, if_neg hk] at hi
        omega
theorem rdb {bo : Nat → Option tm} (t : tm) : wft t → hm t = 3 → ∀ n, ap t = n + 1 → ∃ a b x, lf t n = .branch 4 (.branch 3 a b) x ∧ rd bo t = some (sub (sbs x 0 b) t n) := by
  induction t with
  | leaf m => intro _ _ n hn; cases hn
  | branch k l r hl hr =>
    intro hw h3 n hn
    by_cases hk : k = 4
    · subst hk
      simp only [hm, if_pos, ap, Nat.add_right_cancel_iff] at *
      cases n with
      | zero =>
        cases l with
        | leaf m =>
          simp only [hm, wft] at *
          omega
        | branch k' a b =>
          by_cases hk' : k' = 4
          · subst hk'
            simp only [ap, if_pos] at hn
            omega
          · simp only [hm, if_neg hk'] at h3
            subst h3
            exact ⟨a, b, r, rfl, rfl⟩
      | succ n =>
        obtain ⟨a, b, x, h1, h2⟩ := hl hw.2.1 h3 n hn
        refine ⟨a, b, x, h1, ?_⟩
        rw [rd_app, fb_none (.inr (by omega)), h2]
        rfl
    · simp only [ap, if_neg hk] at hn
      cases hn
theorem rdc {bo : Nat → Option tm} {b : tm} (t : tm) (hw : wft t) (h5 : hm t % 10 = 5) (hb : bo (hm t / 10) = some b) : rd bo t = some (sub b t (ap t)) ∧ lf t (ap t) = .leaf (hm t) := by
  induction t with
  | leaf m =>
    simp only [hm] at *
    exact ⟨by rw [rd, if_pos h5, hb]; rfl, rfl⟩
  | branch k l r hl hr =>
    by_cases hk : k = 4
    · subst hk
      simp only [hm, if_pos] at h5 hb
      obtain ⟨h1, h2⟩ := hl hw.2.1 h5 hb
      refine ⟨?_, ?_⟩
      · rw [rd_app, fb_none (.inl (by omega)), h1]
        simp only [ap, if_pos]
        rfl
      · simp only [ap, hm, if_pos]
        exact h2
    · simp only [hm, if_neg hk] at h5
      have := hw.1
      omega
/-- the constants, in the class -/
def CI (q : Nat) (N : cN) (C : cC) (ct : Nat → tm) (bo : Nat → Option tm) : Prop := C.2.2 = jn q ∧ q ≤ 16 ∧ ∀ c, c < q → (∃ tp, C.1 c = jn tp ∧ Rp N tp (ct c)) ∧ match bo c with
  | some b => ∃ bp, C.2.1 c = jn bp ∧ Rp N bp b ∧ sz b ≤ 60 ∧ dp b ≤ 12 ∧ okt 10 q 10 b
  | none => C.2.1 c = jng
theorem ci_ex {q : Nat} {N N' : cN} {C : cC} {ct : Nat → tm} {bo : Nat → Option tm} (h' : Ex N N') (h : CI q N C ct bo) : CI q N' C ct bo := by
  refine ⟨h.1, h.2.1, fun c hc => ?_⟩
  obtain ⟨⟨tp, h1, h2⟩, h3⟩ := h.2.2 c hc
  refine ⟨⟨tp, h1, rp_ex h' _ h2⟩, ?_⟩
  split
  · rename_i b e
    rw [e] at h3
    obtain ⟨bp, g1, g2, g3⟩ := h3
    exact ⟨bp, g1, rp_ex h' _ g2, g3⟩
  · rename_i e
    rw [e] at h3
    exact h3
theorem c_body {q : Nat} {N : cN} {C : cC} {ct : Nat → tm} {bo : Nat → Option tm} (h : CI q N C ct bo) {c : Nat} (hc : c < q) : fC_bodyAt C (jn c) = some (C.2.1 c) ∧ fC_isThere C (jn c) = some true := by
  obtain ⟨ctt, cb, cm⟩ := C
  have h1 : cm = jn q := h.1
  have h2 := h.2.1
  subst h1
  have e : fC_isThere (ctt, cb, jn q) (jn c) = some true := by
    unfold fC_isThere
    (repeat (first | (with_reducible refine ifn ?_ ?_; (focus (simp (disch := omega) only [jlo, jl0, jl1, jl2, jl3, jl4, jl5, jl9, jl10, jl12, jl16, jl30, jl60, jl63, jl64, jl80, jl100, jl120, jl512, jlM, jlm, j_lt, j_le, j_eq, j_add, j_mul, j_div, j_mod, j_sub, j_m1, j_nelt, j_melt, j_nele, j_mele, j_neeq, j_meeq, j_nat, j_bz0, j_bz1, jc_le0, jc_le1, jc_lt0, jc_lt1, jc_eq0, jc_eq1, Nat.not_lt_zero, Nat.zero_le, ne_eq, false_or, or_false, true_or, or_true, not_false_eq_true, not_true_eq_false, ↓reduceIte, Option.bind_some, Nat.add_sub_cancel, Nat.add_sub_cancel_left, reduceCtorEq, Option.some.injEq, Prod.mk.injEq, true_and, and_true, decide_true, decide_false, Bool.true_eq_false, Bool.false_eq_true, Bool.not_eq_true, Bool.not_eq_false]; done))) | (with_reducible refine ifp ?_ ?_; (focus (simp (disch := omega) only [jlo, jl0, jl1, jl2, jl3, jl4, jl5, jl9, jl10, jl12, jl16, jl30, jl60, jl63, jl64, jl80, jl100, jl120, jl512, jlM, jlm, j_lt, j_le, j_eq, j_add, j_mul, j_div, j_mod, j_sub, j_m1, j_nelt, j_melt, j_nele, j_mele, j_neeq, j_meeq, j_nat, j_bz0, j_bz1, jc_le0, jc_le1, jc_lt0, jc_lt1, jc_eq0, jc_eq1, Nat.not_lt_zero, Nat.zero_le, ne_eq, false_or, or_false, true_or, or_true, not_false_eq_true, not_true_eq_false, ↓reduceIte, Option.bind_some, Nat.add_sub_cancel, Nat.add_sub_cancel_left, reduceCtorEq, Option.some.injEq, Prod.mk.injEq, true_and, and_true, decide_true, decide_false, Bool.true_eq_false, Bool.false_eq_true, Bool.not_eq_true, Bool.not_eq_false]; done))) | (with_reducible apply bnd1; (focus ((try simp (disch := omega) only [jlo, jl0, jl1, jl2, jl3, jl4, jl5, jl9, jl10, jl12, jl16, jl30, jl60, jl63, jl64, jl80, jl100, jl120, jl512, jlM, jlm, j_lt, j_le, j_eq, j_add, j_mul, j_div, j_mod, j_sub, j_m1, j_nelt, j_melt, j_nele, j_mele, j_neeq, j_meeq, j_nat, j_bz0, j_bz1, jc_le0, jc_le1, jc_lt0, jc_lt1, jc_eq0, jc_eq1, Nat.not_lt_zero, Nat.zero_le, ne_eq, false_or, or_false, true_or, or_true, not_false_eq_true, not_true_eq_false, ↓reduceIte, Option.bind_some, Nat.add_sub_cancel, Nat.add_sub_cancel_left, reduceCtorEq, Option.some.injEq, Prod.mk.injEq, true_and, and_true, decide_true, decide_false, Bool.true_eq_false, Bool.false_eq_true, Bool.not_eq_true, Bool.not_eq_false]); exact rfl)); with_reducible refine bnd rfl ?_)))
    rfl
  refine ⟨?_, e⟩
  unfold fC_bodyAt
  (repeat (first | (with_reducible refine ifn ?_ ?_; (focus (simp (disch := omega) only [jlo, jl0, jl1, jl2, jl3, jl4, jl5, jl9, jl10, jl12, jl16, jl30, jl60, jl63, jl64, jl80, jl100, jl120, jl512, jlM, jlm, j_lt, j_le, j_eq, j_add, j_mul, j_div, j_mod, j_sub, j_m1, j_nelt, j_melt, j_nele, j_mele, j_neeq, j_meeq, j_nat, j_bz0, j_bz1, jc_le0, jc_le1, jc_lt0, jc_lt1, jc_eq0, jc_eq1, Nat.not_lt_zero, Nat.zero_le, ne_eq, false_or, or_false, true_or, or_true, not_false_eq_true, not_true_eq_false, ↓reduceIte, Option.bind_some, Nat.add_sub_cancel, Nat.add_sub_cancel_left, reduceCtorEq, Option.some.injEq, Prod.mk.injEq, true_and, and_true, decide_true, decide_false, Bool.true_eq_false, Bool.false_eq_true, Bool.not_eq_true, Bool.not_eq_false, e]; done))) | (with_reducible refine ifp ?_ ?_; (focus (simp (disch := omega) only [jlo, jl0, jl1, jl2, jl3, jl4, jl5, jl9, jl10, jl12, jl16, jl30, jl60, jl63, jl64, jl80, jl100, jl120, jl512, jlM, jlm, j_lt, j_le, j_eq, j_add, j_mul, j_div, j_mod, j_sub, j_m1, j_nelt, j_melt, j_nele, j_mele, j_neeq, j_meeq, j_nat, j_bz0, j_bz1, jc_le0, jc_le1, jc_lt0, jc_lt1, jc_eq0, jc_eq1, Nat.not_lt_zero, Nat.zero_le, ne_eq, false_or, or_false, true_or, or_true, not_false_eq_true, not_true_eq_false, ↓reduceIte, Option.bind_some, Nat.add_sub_cancel, Nat.add_sub_cancel_left, reduceCtorEq, Option.some.injEq, Prod.mk.injEq, true_and, and_true, decide_true, decide_false, Bool.true_eq_false, Bool.false_eq_true, Bool.not_eq_true, Bool.not_eq_false, e]; done))) | (with_reducible apply bnd1; (focus ((try simp (disch := omega) only [jlo, jl0, jl1, jl2, jl3, jl4, jl5, jl9, jl10, jl12, jl16, jl30, jl60, jl63, jl64, jl80, jl100, jl120, jl512, jlM, jlm, j_lt, j_le, j_eq, j_add, j_mul, j_div, j_mod, j_sub, j_m1, j_nelt, j_melt, j_nele, j_mele, j_neeq, j_meeq, j_nat, j_bz0, j_bz1, jc_le0, jc_le1, jc_lt0, jc_lt1, jc_eq0, jc_eq1, Nat.not_lt_zero, Nat.zero_le, ne_eq, false_or, or_false, true_or, or_true, not_false_eq_true, not_true_eq_false, ↓reduceIte, Option.bind_some, Nat.add_sub_cancel, Nat.add_sub_cancel_left, reduceCtorEq, Option.some.injEq, Prod.mk.injEq, true_and, and_true, decide_true, decide_false, Bool.true_eq_false, Bool.false_eq_true, Bool.not_eq_true, Bool.not_eq_false, e]); exact rfl)); with_reducible refine bnd rfl ?_)))
  simp (disch := omega) only [jlo, jl0, jl1, jl2, jl3, jl4, jl5, jl9, jl10, jl12, jl16, jl30, jl60, jl63, jl64, jl80, jl100, jl120, jl512, jlM, jlm, j_lt, j_le, j_eq, j_add, j_mul, j_div, j_mod, j_sub, j_m1, j_nelt, j_melt, j_nele, j_mele, j_neeq, j_meeq, j_nat, j_bz0, j_bz1, jc_le0, jc_le1, jc_lt0, jc_lt1, jc_eq0, jc_eq1, Nat.not_lt_zero, Nat.zero_le, ne_eq, false_or, or_false, true_or, or_true, not_false_eq_true, not_true_eq_false, ↓reduceIte, Option.bind_some, Nat.add_sub_cancel, Nat.add_sub_cancel_left, reduceCtorEq, Option.some.injEq, Prod.mk.injEq, true_and, and_true, decide_true, decide_false, Bool.true_eq_false, Bool.false_eq_true, Bool.not_eq_true, Bool.not_eq_false]
