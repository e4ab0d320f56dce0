theorem c_head_l {fl q d fu : Nat} (hfl : 10000 ≤ fl) (hd40 : 40 ≤ d) (hfu : fu ≤ 30) {C : cC} {ct : Nat → tm} {bo : Nat → Option tm} {c : Nat} (hc10 : 10 ≤ c) (hc : c < 900) {fi se : Nat → Int32} {op v1 : Int32} (g : Nat) : ∀ {N : cN} {k n p ma i : Nat} {t : tm}, NI N → CI q N C ct bo → okt 10 q c t → Rp N p t → sz t ≤ 60 → dp t ≤ 12 → ma + g = fu → i ≤ ma → nen N + 80 * g ≤ 25000 →
    match hf bo g t with
      | some (t', g') => ∃ N' k' n' p', (∀ w, lp_fE_headForm_4 fl d (w + g + 1) N C (fi, se, op, jn fu, jn ma) k n v1 (jn p) (jn i) = some (.inl (jn p'), N', (fi, se, op, jn fu, jn (fu - g')), (k', n'))) ∧ Nst N k n N' k' n' ∧ Rp N' p' t' ∧ nen N' + 80 * g' ≤ nen N + 80 * g
      | none => ∃ N' k' n' ma', (∀ w, lp_fE_headForm_4 fl d (w + g + 1) N C (fi, se, op, jn fu, jn ma) k n v1 (jn p) (jn i) = some (.inr 2, N', (fi, se, op, jn fu, ma'), (k' + 1, n' + 6))) ∧ Nst N k n N' k' n' ∧ nen N' ≤ nen N + 80 * g + 4000 := by
  induction g with
  | zero =>
    intro N k n p ma i t hN hC hk h h60 hd hma hi he
    have hq := hC.2.1
    have hw := okt_wft (by omega) (by omega) t hk (by omega)
    obtain ⟨n1, n2⟩ := c_next hfl hN hC hw hk h hd
    rcases hrd : rd bo t with _ | t'
    · simp only [hf, hrd]
      refine ⟨N, k, n, p, fun w => ?_, nst_refl hN k n, h, by omega⟩
      have hz := n1 hrd
      rw [lp_fE_headForm_4]
      (repeat (first | (with_reducible refine ifn ?_ ?_; (focus (simp (disch := omega) only [jlo, jl0, jl1, jl2, jl3, jl4, jl5, jl9, jl10, jl12, jl16, jl30, jl60, jl63, jl64, jl80, jl100, jl120, jl512, jlM, jlm, j_lt, j_le, j_eq, j_add, j_mul, j_div, j_mod, j_sub, j_m1, j_nelt, j_melt, j_nele, j_mele, j_neeq, j_meeq, j_nat, j_bz0, j_bz1, jc_le0, jc_le1, jc_lt0, jc_lt1, jc_eq0, jc_eq1, Nat.not_lt_zero, Nat.zero_le, ne_eq, false_or, or_false, true_or, or_true, not_false_eq_true, not_true_eq_false, ↓reduceIte, Option.bind_some, Nat.add_sub_cancel, Nat.add_sub_cancel_left, reduceCtorEq, Option.some.injEq, Prod.mk.injEq, true_and, and_true, decide_true, decide_false, Bool.true_eq_false, Bool.false_eq_true, Bool.not_eq_true, Bool.not_eq_false, hz]; done))) | (with_reducible refine ifp ?_ ?_; (focus (simp (disch := omega) only [jlo, jl0, jl1, jl2, jl3, jl4, jl5, jl9, jl10, jl12, jl16, jl30, jl60, jl63, jl64, jl80, jl100, jl120, jl512, jlM, jlm, j_lt, j_le, j_eq, j_add, j_mul, j_div, j_mod, j_sub, j_m1, j_nelt, j_melt, j_nele, j_mele, j_neeq, j_meeq, j_nat, j_bz0, j_bz1, jc_le0, jc_le1, jc_lt0, jc_lt1, jc_eq0, jc_eq1, Nat.not_lt_zero, Nat.zero_le, ne_eq, false_or, or_false, true_or, or_true, not_false_eq_true, not_true_eq_false, ↓reduceIte, Option.bind_some, Nat.add_sub_cancel, Nat.add_sub_cancel_left, reduceCtorEq, Option.some.injEq, Prod.mk.injEq, true_and, and_true, decide_true, decide_false, Bool.true_eq_false, Bool.false_eq_true, Bool.not_eq_true, Bool.not_eq_false, hz]; done))) | (with_reducible apply bnd1; (focus ((try simp (disch := omega) only [jlo, jl0, jl1, jl2, jl3, jl4, jl5, jl9, jl10, jl12, jl16, jl30, jl60, jl63, jl64, jl80, jl100, jl120, jl512, jlM, jlm, j_lt, j_le, j_eq, j_add, j_mul, j_div, j_mod, j_sub, j_m1, j_nelt, j_melt, j_nele, j_mele, j_neeq, j_meeq, j_nat, j_bz0, j_bz1, jc_le0, jc_le1, jc_lt0, jc_lt1, jc_eq0, jc_eq1, Nat.not_lt_zero, Nat.zero_le, ne_eq, false_or, or_false, true_or, or_true, not_false_eq_true, not_true_eq_false, ↓reduceIte, Option.bind_some, Nat.add_sub_cancel, Nat.add_sub_cancel_left, reduceCtorEq, Option.some.injEq, Prod.mk.injEq, true_and, and_true, decide_true, decide_false, Bool.true_eq_false, Bool.false_eq_true, Bool.not_eq_true, Bool.not_eq_false, hz]); exact rfl)); with_reducible refine bnd rfl ?_)))
      rw [show fu - 0 = ma by omega]
    · simp only [hf, hrd]
      obtain ⟨z, hz, hz6, -⟩ := n2 t' hrd
      refine ⟨N, k, n, jn ma, fun w => ?_, nst_refl hN k n, by omega⟩
      have hmf : ma = fu := by omega
      subst hmf
      rw [lp_fE_headForm_4]
      (repeat (first | (with_reducible refine ifn ?_ ?_; (focus (simp (disch := omega) only [jlo, jl0, jl1, jl2, jl3, jl4, jl5, jl9, jl10, jl12, jl16, jl30, jl60, jl63, jl64, jl80, jl100, jl120, jl512, jlM, jlm, j_lt, j_le, j_eq, j_add, j_mul, j_div, j_mod, j_sub, j_m1, j_nelt, j_melt, j_nele, j_mele, j_neeq, j_meeq, j_nat, j_bz0, j_bz1, jc_le0, jc_le1, jc_lt0, jc_lt1, jc_eq0, jc_eq1, Nat.not_lt_zero, Nat.zero_le, ne_eq, false_or, or_false, true_or, or_true, not_false_eq_true, not_true_eq_false, ↓reduceIte, Option.bind_some, Nat.add_sub_cancel, Nat.add_sub_cancel_left, reduceCtorEq, Option.some.injEq, Prod.mk.injEq, true_and, and_true, decide_true, decide_false, Bool.true_eq_false, Bool.false_eq_true, Bool.not_eq_true, Bool.not_eq_false, hz]; done))) | (with_reducible refine ifp ?_ ?_; (focus (simp (disch := omega) only [jlo, jl0, jl1, jl2, jl3, jl4, jl5, jl9, jl10, jl12, jl16, jl30, jl60, jl63, jl64, jl80, jl100, jl120, jl512, jlM, jlm, j_lt, j_le, j_eq, j_add, j_mul, j_div, j_mod, j_sub, j_m1, j_nelt, j_melt, j_nele, j_mele, j_neeq, j_meeq, j_nat, j_bz0, j_bz1, jc_le0, jc_le1, jc_lt0, jc_lt1, jc_eq0, jc_eq1, Nat.not_lt_zero, Nat.zero_le, ne_eq, false_or, or_false, true_or, or_true, not_false_eq_true, not_true_eq_false, ↓reduceIte, Option.bind_some, Nat.add_sub_cancel, Nat.add_sub_cancel_left, reduceCtorEq, Option.some.injEq, Prod.mk.injEq, true_and, and_true, decide_true, decide_false, Bool.true_eq_false, Bool.false_eq_true, Bool.not_eq_true, Bool.not_eq_false, hz]; done))) | (with_reducible apply bnd1; (focus ((try simp (disch := omega) only [jlo, jl0, jl1, jl2, jl3, jl4, jl5, jl9, jl10, jl12, jl16, jl30, jl60, jl63, jl64, jl80, jl100, jl120, jl512, jlM, jlm, j_lt, j_le, j_eq, j_add, j_mul, j_div, j_mod, j_sub, j_m1, j_nelt, j_melt, j_nele, j_mele, j_neeq, j_meeq, j_nat, j_bz0, j_bz1, jc_le0, jc_le1, jc_lt0, jc_lt1, jc_eq0, jc_eq1, Nat.not_lt_zero, Nat.zero_le, ne_eq, false_or, or_false, true_or, or_true, not_false_eq_true, not_true_eq_false, ↓reduceIte, Option.bind_some, Nat.add_sub_cancel, Nat.add_sub_cancel_left, reduceCtorEq, Option.some.injEq, Prod.mk.injEq, true_and, and_true, decide_true, decide_false, Bool.true_eq_false, Bool.false_eq_true, Bool.not_eq_true, Bool.not_eq_false, hz]); exact rfl)); with_reducible refine bnd rfl ?_)))
      rfl
  | succ g ih =>
    intro N k n p ma i t hN hC hk h h60 hd hma hi he
    have hq := hC.2.1
    have hw := okt_wft (by omega) (by omega) t hk (by omega)
    obtain ⟨n1, n2⟩ := c_next hfl hN hC hw hk h hd
    rcases hrd : rd bo t with _ | t'
    · simp only [hf, hrd]
      refine ⟨N, k, n, p, fun w => ?_, nst_refl hN k n, h, by omega⟩
      have hz := n1 hrd
      rw [lp_fE_headForm_4]
      (repeat (first | (with_reducible refine ifn ?_ ?_; (focus (simp (disch := omega) only [jlo, jl0, jl1, jl2, jl3, jl4, jl5, jl9, jl10, jl12, jl16, jl30, jl60, jl63, jl64, jl80, jl100, jl120, jl512, jlM, jlm, j_lt, j_le, j_eq, j_add, j_mul, j_div, j_mod, j_sub, j_m1, j_nelt, j_melt, j_nele, j_mele, j_neeq, j_meeq, j_nat, j_bz0, j_bz1, jc_le0, jc_le1, jc_lt0, jc_lt1, jc_eq0, jc_eq1, Nat.not_lt_zero, Nat.zero_le, ne_eq, false_or, or_false, true_or, or_true, not_false_eq_true, not_true_eq_false, ↓reduceIte, Option.bind_some, Nat.add_sub_cancel, Nat.add_sub_cancel_left, reduceCtorEq, Option.some.injEq, Prod.mk.injEq, true_and, and_true, decide_true, decide_false, Bool.true_eq_false, Bool.false_eq_true, Bool.not_eq_true, Bool.not_eq_false, hz]; done))) | (with_reducible refine ifp ?_ ?_; (focus (simp (disch := omega) only [jlo, jl0, jl1, jl2, jl3, jl4, jl5, jl9, jl10, jl12, jl16, jl30, jl60, jl63, jl64, jl80, jl100, jl120, jl512, jlM, jlm, j_lt, j_le, j_eq, j_add, j_mul, j_div, j_mod, j_sub, j_m1, j_nelt, j_melt, j_nele, j_mele, j_neeq, j_meeq, j_nat, j_bz0, j_bz1, jc_le0, jc_le1, jc_lt0, jc_lt1, jc_eq0, jc_eq1, Nat.not_lt_zero, Nat.zero_le, ne_eq, false_or, or_false, true_or, or_true, not_false_eq_true, not_true_eq_false, ↓reduceIte, Option.bind_some, Nat.add_sub_cancel, Nat.add_sub_cancel_left, reduceCtorEq, Option.some.injEq, Prod.mk.injEq, true_and, and_true, decide_true, decide_false, Bool.true_eq_false, Bool.false_eq_true, Bool.not_eq_true, Bool.not_eq_false, hz]; done))) | (with_reducible apply bnd1; (focus ((try simp (disch := omega) only [jlo, jl0, jl1, jl2, jl3, jl4, jl5, jl9, jl10, jl12, jl16, jl30, jl60, jl63, jl64, jl80, jl100, jl120, jl512, jlM, jlm, j_lt, j_le, j_eq, j_add, j_mul, j_div, j_mod, j_sub, j_m1, j_nelt, j_melt, j_nele, j_mele, j_neeq, j_meeq, j_nat, j_bz0, j_bz1, jc_le0, jc_le1, jc_lt0, jc_lt1, jc_eq0, jc_eq1, Nat.not_lt_zero, Nat.zero_le, ne_eq, false_or, or_false, true_or, or_true, not_false_eq_true, not_true_eq_false, ↓reduceIte, Option.bind_some, Nat.add_sub_cancel, Nat.add_sub_cancel_left, reduceCtorEq, Option.some.injEq, Prod.mk.injEq, true_and, and_true, decide_true, decide_false, Bool.true_eq_false, Bool.false_eq_true, Bool.not_eq_true, Bool.not_eq_false, hz]); exact rfl)); with_reducible refine bnd rfl ?_)))
      rw [show fu - (g + 1) = ma by omega]
    · obtain ⟨N1, k1, m1, p1, s1, r1, c1, c2, e1⟩ := c_redn hfl hd40 hN hC k n hc hk h h60 hd (by omega) hrd
      have hbo : ∀ i b, i < q → bo i = some b → okt 10 q 10 b := fun i b hi hbi => by
        have := (hC.2.2 i hi).2
        rw [hbi] at this
        obtain ⟨-, -, -, -, -, h⟩ := this
        exact h
      by_cases hb : sz t' ≤ 60 ∧ dp t' ≤ 12
      · have hih := ih (N := N1) (k := k1) (n := m1) (p := p1) (ma := ma + 1) (i := i + 1) s1.1 (ci_ex s1.2.1 hC) (okt_rd hc10 hbo t hk hrd) r1 hb.1 hb.2 (by omega) (by omega) (by have := c2 hb.1; omega)
        have key : ∀ w, lp_fE_headForm_4 fl d (w + (g + 1) + 1) N C (fi, se, op, jn fu, jn ma) k n v1 (jn p) (jn i) = lp_fE_headForm_4 fl d (w + g + 1) N1 C (fi, se, op, jn fu, jn (ma + 1)) k1 m1 v1 (jn p1) (jn (i + 1)) := fun w => by
          rw [e1 (w + (g + 1)) v1 i fi se op fu ma (by omega) hfu (by omega), if_pos hb]
          rfl
        simp only [hf, hrd, if_pos hb, key]
        have hc2 := c2 hb.1
        split
        · rename_i t2 g2 e
          rw [e] at hih
          obtain ⟨N2, k2, m2, p2, h1, h2, h3, h4⟩ := hih
          exact ⟨N2, k2, m2, p2, h1, nst_trans s1 h2, h3, by omega⟩
        · rename_i e
          rw [e] at hih
          obtain ⟨N2, k2, m2, ma2, h1, h2, h3⟩ := hih
          exact ⟨N2, k2, m2, ma2, h1, nst_trans s1 h2, by omega⟩
      · simp only [hf, hrd, if_neg hb]
        exact ⟨N1, k1, m1, jn ma, fun w => by rw [e1 (w + (g + 1)) v1 i fi se op fu ma (by omega) hfu (by omega), if_neg hb], s1, by omega⟩
theorem c_head {fl q d fu g : Nat} (hfl : 10000 ≤ fl) (hd40 : 40 ≤ d) (hfu : fu ≤ 30) (hg : g ≤ fu) {N : cN} {C : cC} {ct : Nat → tm} {bo : Nat → Option tm} {c : Nat} (hc10 : 10 ≤ c) (hc : c < 900) {fi se : Nat → Int32} {op : Int32} {p : Nat} {t : tm} (k n : Nat) (hN : NI N) (hC : CI q N C ct bo) (hk : okt 10 q c t) (h : Rp N p t) (h60 : sz t ≤ 60) (hd : dp t ≤ 12) (he : nen N + 80 * g ≤ 25000) :
    match hf bo g t with
      | some (t', g') => ∃ N' k' n' p', fE_headForm fl d N C (fi, se, op, jn fu, jn (fu - g)) k n (jn p) = some (.inl (jn p'), N', (fi, se, op, jn fu, jn (fu - g')), (k', n')) ∧ Nst N k n N' k' n' ∧ Rp N' p' t' ∧ nen N' + 80 * g' ≤ nen N + 80 * g
      | none => ∃ N' k' n' ma', fE_headForm fl d N C (fi, se, op, jn fu, jn (fu - g)) k n (jn p) = some (.inr 2, N', (fi, se, op, jn fu, ma'), (k' + 1, n' + 6)) ∧ Nst N k n N' k' n' ∧ nen N' ≤ nen N + 80 * g + 4000 := by
  have hl := c_head_l hfl hd40 hfu hc10 hc (fi := fi) (se := se) (op := op) (v1 := jn p) g (k := k) (n := n) (ma := fu - g) (i := 0) hN hC hk h h60 hd (by omega) (by omega) he
  have e0 : ∀ x, fl - g - 1 + g + 1 = x → x = fl := fun x h => by omega
  split
  · rename_i t' g' e
    rw [e] at hl
    obtain ⟨N', k', n', p', h1, h2⟩ := hl
    refine ⟨N', k', n', p', ?_, h2⟩
    have := h1 (fl - g - 1)
    rw [show fl - g - 1 + g + 1 = fl by omega] at this
    exact this
  · rename_i e
    rw [e] at hl
    obtain ⟨N', k', n', ma', h1, h2⟩ := hl
    refine ⟨N', k', n', ma', ?_, h2⟩
    have := h1 (fl - g - 1)
    rw [show fl - g - 1 + g + 1 = fl by omega] at this
    exact this
