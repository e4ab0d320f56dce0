theorem c_room {N : cN} (hN : NI N) (he : nen N ≤ 32000) (k n : Nat) : ∃ N1 k1 n1, Nst N k n N1 k1 n1 ∧ nen N1 = nen N ∧ nen N1 < ncap N1 ∧ ∀ p1 p2 p3 K L R S D, fN_fill N1 (jn (nen N)) p1 p2 p3 = some (K, L, R, S, D, N1.2.2.2.2.2) → fN_add N k n p1 p2 p3 = some (jn (nen N), (K, L, R, S, D, ncap N1, jn (nmt N), jn (nle N), jn (nen N + 1)), (k1, n1)) := by
  obtain ⟨K0, L0, R0, S0, D0, cap, mt, le, en⟩ := N
  obtain ⟨h1, h2, h3, h4, h5, h6, h7, h8, h9⟩ := hN
  simp only at h1 h2 h3
  generalize hm : nmt (K0, L0, R0, S0, D0, cap, mt, le, en) = m at *
  generalize hl : nle (K0, L0, R0, S0, D0, cap, mt, le, en) = l at *
  generalize hen : nen (K0, L0, R0, S0, D0, cap, mt, le, en) = e at *
  simp only [ncap] at h7 h8 h9
  subst h1 h2 h3
  have hmm : m < 2147483648 := by omega
  have hll : l < 2147483648 := by omega
  by_cases hc : e < cap
  · refine ⟨(K0, L0, R0, S0, D0, cap, jn m, jn l, jn e), k, n, nst_refl (N := (K0, L0, R0, S0, D0, cap, jn m, jn l, jn e)) ⟨?_, ?_, ?_, by rw [hm]; exact h4, by rw [hl]; exact h5, by rw [hl, hen]; exact h6, by rw [hen]; exact h7, h8, h9⟩ k n, hen, by rw [hen]; exact hc, ?_⟩
    · rw [hm]
    · rw [hl]
    · rw [hen]
    · intro p1 p2 p3 K L R S D hf
      unfold fN_add
      (repeat (first | (with_reducible refine ifn ?_ ?_; (focus (simp (disch := omega) only [jlo, jl0, jl1, jl2, jl3, jl4, jl5, jl9, jl10, jl12, jl16, jl30, jl60, jl63, jl64, jl80, jl100, jl120, jl512, jlM, jlm, j_lt, j_le, j_eq, j_add, j_mul, j_div, j_mod, j_sub, j_m1, j_nelt, j_melt, j_nele, j_mele, j_neeq, j_meeq, j_nat, j_bz0, j_bz1, jc_le0, jc_le1, jc_lt0, jc_lt1, jc_eq0, jc_eq1, Nat.not_lt_zero, Nat.zero_le, ne_eq, false_or, or_false, true_or, or_true, not_false_eq_true, not_true_eq_false, ↓reduceIte, Option.bind_some, Nat.add_sub_cancel, Nat.add_sub_cancel_left, reduceCtorEq, Option.some.injEq, Prod.mk.injEq, true_and, and_true, decide_true, decide_false, Bool.true_eq_false, Bool.false_eq_true, Bool.not_eq_true, Bool.not_eq_false, hf]; done))) | (with_reducible refine ifp ?_ ?_; (focus (simp (disch := omega) only [jlo, jl0, jl1, jl2, jl3, jl4, jl5, jl9, jl10, jl12, jl16, jl30, jl60, jl63, jl64, jl80, jl100, jl120, jl512, jlM, jlm, j_lt, j_le, j_eq, j_add, j_mul, j_div, j_mod, j_sub, j_m1, j_nelt, j_melt, j_nele, j_mele, j_neeq, j_meeq, j_nat, j_bz0, j_bz1, jc_le0, jc_le1, jc_lt0, jc_lt1, jc_eq0, jc_eq1, Nat.not_lt_zero, Nat.zero_le, ne_eq, false_or, or_false, true_or, or_true, not_false_eq_true, not_true_eq_false, ↓reduceIte, Option.bind_some, Nat.add_sub_cancel, Nat.add_sub_cancel_left, reduceCtorEq, Option.some.injEq, Prod.mk.injEq, true_and, and_true, decide_true, decide_false, Bool.true_eq_false, Bool.false_eq_true, Bool.not_eq_true, Bool.not_eq_false, hf]; done))) | (with_reducible apply bnd1; (focus ((try simp (disch := omega) only [jlo, jl0, jl1, jl2, jl3, jl4, jl5, jl9, jl10, jl12, jl16, jl30, jl60, jl63, jl64, jl80, jl100, jl120, jl512, jlM, jlm, j_lt, j_le, j_eq, j_add, j_mul, j_div, j_mod, j_sub, j_m1, j_nelt, j_melt, j_nele, j_mele, j_neeq, j_meeq, j_nat, j_bz0, j_bz1, jc_le0, jc_le1, jc_lt0, jc_lt1, jc_eq0, jc_eq1, Nat.not_lt_zero, Nat.zero_le, ne_eq, false_or, or_false, true_or, or_true, not_false_eq_true, not_true_eq_false, ↓reduceIte, Option.bind_some, Nat.add_sub_cancel, Nat.add_sub_cancel_left, reduceCtorEq, Option.some.injEq, Prod.mk.injEq, true_and, and_true, decide_true, decide_false, Bool.true_eq_false, Bool.false_eq_true, Bool.not_eq_true, Bool.not_eq_false, hf]); exact rfl)); with_reducible refine bnd rfl ?_)))
      simp (disch := omega) only [jlo, jl0, jl1, jl2, jl3, jl4, jl5, jl9, jl10, jl12, jl16, jl30, jl60, jl63, jl64, jl80, jl100, jl120, jl512, jlM, jlm, j_lt, j_le, j_eq, j_add, j_mul, j_div, j_mod, j_sub, j_m1, j_nelt, j_melt, j_nele, j_mele, j_neeq, j_meeq, j_nat, j_bz0, j_bz1, jc_le0, jc_le1, jc_lt0, jc_lt1, jc_eq0, jc_eq1, Nat.not_lt_zero, Nat.zero_le, ne_eq, false_or, or_false, true_or, or_true, not_false_eq_true, not_true_eq_false, ↓reduceIte, Option.bind_some, Nat.add_sub_cancel, Nat.add_sub_cancel_left, reduceCtorEq, Option.some.injEq, Prod.mk.injEq, true_and, and_true, decide_true, decide_false, Bool.true_eq_false, Bool.false_eq_true, Bool.not_eq_true, Bool.not_eq_false, ncap]
  · have hec : e = cap := by omega
    subst hec
    have hg : fN_grow (K0, L0, R0, S0, D0, e, jn m, jn l, jn e) k n = some ((am_ext K0 e, am_ext L0 e, am_ext R0 e, am_ext S0 e, am_ext D0 e, e * 2, jn m, jn l, jn e), (k + 5, n + 5 * (e * 2))) := by
      unfold fN_grow
      exact if_pos ⟨by omega, by omega⟩
    refine ⟨(am_ext K0 e, am_ext L0 e, am_ext R0 e, am_ext S0 e, am_ext D0 e, e * 2, jn m, jn l, jn e), k + 5, n + 5 * (e * 2), ⟨⟨?_, ?_, ?_, ?_, ?_, ?_, ?_, ?_, ?_⟩, ⟨?_, ?_, ?_, ?_, ?_⟩, ?_, ?_⟩, ?_, ?_, ?_⟩
    · show jn m = jn (jn m).toNatClampNeg
      rw [j_nat hmm]
    · show jn l = jn (jn l).toNatClampNeg
      rw [j_nat hll]
    · show jn e = jn (jn e).toNatClampNeg
      rw [j_nat (by omega)]
    · show (jn m).toNatClampNeg ≤ 120
      rw [j_nat hmm]
      exact h4
    · show 120 ≤ (jn l).toNatClampNeg
      rw [j_nat hll]
      exact h5
    · show (jn l).toNatClampNeg ≤ (jn e).toNatClampNeg
      rw [j_nat hll, j_nat (by omega)]
      exact h6
    · show (jn e).toNatClampNeg ≤ e * 2
      rw [j_nat (by omega)]
      omega
    · show 512 ≤ e * 2
      omega
    · show e * 2 ≤ 65536
      omega
    · rw [hm]
      show (jn m).toNatClampNeg = m
      rw [j_nat hmm]
    · rw [hl]
      show (jn l).toNatClampNeg = l
      rw [j_nat hll]
    · rw [hen]
      show e ≤ (jn e).toNatClampNeg
      rw [j_nat (by omega)]
      exact Nat.le_refl _
    · show e ≤ e * 2
      omega
    · intro p hp
      have hp : p < e := by
        unfold vd at hp
        rw [hm, hen] at hp
        omega
      exact ⟨if_pos hp, if_pos hp, if_pos hp, if_pos hp, if_pos hp⟩
    · show k + 5 + e ≤ k + e * 2
      omega
    · show n + 5 * (e * 2) + 10 * e ≤ n + 10 * (e * 2)
      omega
    · show (jn e).toNatClampNeg = e
      rw [j_nat (by omega)]
    · show (jn e).toNatClampNeg < e * 2
      rw [j_nat (by omega)]
      omega
    · intro p1 p2 p3 K L R S D hf
      unfold fN_add
      (repeat (first | (with_reducible refine ifn ?_ ?_; (focus (simp (disch := omega) only [jlo, jl0, jl1, jl2, jl3, jl4, jl5, jl9, jl10, jl12, jl16, jl30, jl60, jl63, jl64, jl80, jl100, jl120, jl512, jlM, jlm, j_lt, j_le, j_eq, j_add, j_mul, j_div, j_mod, j_sub, j_m1, j_nelt, j_melt, j_nele, j_mele, j_neeq, j_meeq, j_nat, j_bz0, j_bz1, jc_le0, jc_le1, jc_lt0, jc_lt1, jc_eq0, jc_eq1, Nat.not_lt_zero, Nat.zero_le, ne_eq, false_or, or_false, true_or, or_true, not_false_eq_true, not_true_eq_false, ↓reduceIte, Option.bind_some, Nat.add_sub_cancel, Nat.add_sub_cancel_left, reduceCtorEq, Option.some.injEq, Prod.mk.injEq, true_and, and_true, decide_true, decide_false, Bool.true_eq_false, Bool.false_eq_true, Bool.not_eq_true, Bool.not_eq_false, hg, hf]; done))) | (with_reducible refine ifp ?_ ?_; (focus (simp (disch := omega) only [jlo, jl0, jl1, jl2, jl3, jl4, jl5, jl9, jl10, jl12, jl16, jl30, jl60, jl63, jl64, jl80, jl100, jl120, jl512, jlM, jlm, j_lt, j_le, j_eq, j_add, j_mul, j_div, j_mod, j_sub, j_m1, j_nelt, j_melt, j_nele, j_mele, j_neeq, j_meeq, j_nat, j_bz0, j_bz1, jc_le0, jc_le1, jc_lt0, jc_lt1, jc_eq0, jc_eq1, Nat.not_lt_zero, Nat.zero_le, ne_eq, false_or, or_false, true_or, or_true, not_false_eq_true, not_true_eq_false, ↓reduceIte, Option.bind_some, Nat.add_sub_cancel, Nat.add_sub_cancel_left, reduceCtorEq, Option.some.injEq, Prod.mk.injEq, true_and, and_true, decide_true, decide_false, Bool.true_eq_false, Bool.false_eq_true, Bool.not_eq_true, Bool.not_eq_false, hg, hf]; done))) | (with_reducible apply bnd1; (focus ((try simp (disch := omega) only [jlo, jl0, jl1, jl2, jl3, jl4, jl5, jl9, jl10, jl12, jl16, jl30, jl60, jl63, jl64, jl80, jl100, jl120, jl512, jlM, jlm, j_lt, j_le, j_eq, j_add, j_mul, j_div, j_mod, j_sub, j_m1, j_nelt, j_melt, j_nele, j_mele, j_neeq, j_meeq, j_nat, j_bz0, j_bz1, jc_le0, jc_le1, jc_lt0, jc_lt1, jc_eq0, jc_eq1, Nat.not_lt_zero, Nat.zero_le, ne_eq, false_or, or_false, true_or, or_true, not_false_eq_true, not_true_eq_false, ↓reduceIte, Option.bind_some, Nat.add_sub_cancel, Nat.add_sub_cancel_left, reduceCtorEq, Option.some.injEq, Prod.mk.injEq, true_and, and_true, decide_true, decide_false, Bool.true_eq_false, Bool.false_eq_true, Bool.not_eq_true, Bool.not_eq_false, hg, hf]); exact rfl)); with_reducible refine bnd rfl ?_)))
      simp (disch := omega) only [jlo, jl0, jl1, jl2, jl3, jl4, jl5, jl9, jl10, jl12, jl16, jl30, jl60, jl63, jl64, jl80, jl100, jl120, jl512, jlM, jlm, j_lt, j_le, j_eq, j_add, j_mul, j_div, j_mod, j_sub, j_m1, j_nelt, j_melt, j_nele, j_mele, j_neeq, j_meeq, j_nat, j_bz0, j_bz1, jc_le0, jc_le1, jc_lt0, jc_lt1, jc_eq0, jc_eq1, Nat.not_lt_zero, Nat.zero_le, ne_eq, false_or, or_false, true_or, or_true, not_false_eq_true, not_true_eq_false, ↓reduceIte, Option.bind_some, Nat.add_sub_cancel, Nat.add_sub_cancel_left, reduceCtorEq, Option.some.injEq, Prod.mk.injEq, true_and, and_true, decide_true, decide_false, Bool.true_eq_false, Bool.false_eq_true, Bool.not_eq_true, Bool.not_eq_false, ncap]
/-- the room of a place that was filled -/
theorem c_put {N N1 : cN} {k n k1 n1 : Nat} {K L R S D : Nat → Int32} (h : Nst N k n N1 k1 n1) (he : nen N1 = nen N) (hlt : nen N1 < ncap N1) (he2 : nen N ≤ 32000) {x1 x2 x3 : Int32}
    (hK : K = upd N1.1 (nen N) x1) (hL : L = upd N1.2.1 (nen N) x2) (hR : R = upd N1.2.2.1 (nen N) x3) (hS : ∀ p, p ≠ nen N → S p = N1.2.2.2.1 p) (hD : ∀ p, p ≠ nen N → D p = N1.2.2.2.2.1 p) :
    Nst N k n (K, L, R, S, D, ncap N1, jn (nmt N), jn (nle N), jn (nen N + 1)) k1 n1 ∧ nen (K, L, R, S, D, ncap N1, jn (nmt N), jn (nle N), jn (nen N + 1)) = nen N + 1 ∧ vd (K, L, R, S, D, ncap N1, jn (nmt N), jn (nle N), jn (nen N + 1)) (nen N) := by
  obtain ⟨⟨g1, g2, g3, g4, g5, g6, g7, g8, g9⟩, ⟨f1, f2, f3, f4, f5⟩, h3, h4⟩ := h
  have e1 : nmt (K, L, R, S, D, ncap N1, jn (nmt N), jn (nle N), jn (nen N + 1)) = nmt N := j_nat (by omega)
  have e2 : nle (K, L, R, S, D, ncap N1, jn (nmt N), jn (nle N), jn (nen N + 1)) = nle N := j_nat (by omega)
  have e3 : nen (K, L, R, S, D, ncap N1, jn (nmt N), jn (nle N), jn (nen N + 1)) = nen N + 1 := j_nat (by omega)
  have e4 : ncap (K, L, R, S, D, ncap N1, jn (nmt N), jn (nle N), jn (nen N + 1)) = ncap N1 := rfl
  refine ⟨⟨⟨by rw [e1], by rw [e2], by rw [e3], by omega, by omega, by omega, by omega, by omega, by omega⟩, ⟨e1, e2, by omega, by omega, fun p hp => ?_⟩, by omega, by omega⟩, e3, ?_⟩
  · have hne : p ≠ nen N := by
      unfold vd at hp
      omega
    obtain ⟨a1, a2, a3, a4, a5⟩ := f5 p hp
    refine ⟨?_, ?_, ?_, (hS p hne).trans a4, (hD p hne).trans a5⟩
    · rw [hK]
      exact (if_neg hne).trans a1
    · rw [hL]
      exact (if_neg hne).trans a2
    · rw [hR]
      exact (if_neg hne).trans a3
  · unfold vd
    rw [e1, e3]
    omega
theorem c_addl {N : cN} (hN : NI N) (he : nen N ≤ 32000) (k n m : Nat) : ∃ N' k' n', fN_add N k n (jn (m % 10)) (jn (m / 10)) jng = some (jn (nen N), N', (k', n')) ∧ Nst N k n N' k' n' ∧ nen N' = nen N + 1 ∧ Rp N' (nen N) (.leaf m) := by
  obtain ⟨N1, k1, n1, h1, h2, h3, h4⟩ := c_room hN he k n
  have hf := c_fill (N := N1) (p := nen N) (k := m % 10) (a := jn (m / 10)) (b := jng) (by omega) h1.1.2.2.2.2.2.2.2.2 rfl
  obtain ⟨g1, g2, g3⟩ := c_put (x1 := jn (m % 10)) (x2 := jn (m / 10)) (x3 := jng) h1 h2 h3 he rfl rfl rfl (fun p hp => j_upd N1.2.2.2.1 (nen N) p (jn 1) ▸ if_neg hp) (fun p hp => j_upd N1.2.2.2.2.1 (nen N) p (jn 1) ▸ if_neg hp)
  exact ⟨_, k1, n1, h4 _ _ _ _ _ _ _ _ hf, g1, g2, g3, if_pos rfl, if_pos rfl, if_pos rfl, if_pos rfl, if_pos rfl⟩
theorem rp_sz {N : cN} {p : Nat} {t : tm} (h : Rp N p t) : N.2.2.2.1 p = jn (sz t) ∧ N.2.2.2.2.1 p = jn (dp t) := by
  cases t with
  | leaf m => exact ⟨h.2.2.2.2.1, h.2.2.2.2.2⟩
  | branch k l r => exact ⟨h.2.2.1, h.2.2.2.1⟩
theorem c_addb {N : cN} (hN : NI N) (he : nen N ≤ 32000) (k n kd : Nat) {a b : Nat} {l r : tm} (ha : Rp N a l) (hb : Rp N b r) (hl : sz l < 100000) (hr : sz r < 100000) : ∃ N' k' n', fN_add N k n (jn kd) (jn a) (jn b) = some (jn (nen N), N', (k', n')) ∧ Nst N k n N' k' n' ∧ nen N' = nen N + 1 ∧ Rp N' (nen N) (.branch kd l r) := by
  obtain ⟨N1, k1, n1, h1, h2, h3, h4⟩ := c_room hN he k n
  have va := rp_vd ha
  have vb := rp_vd hb
  have ha1 := rp_sz (rp_ex h1.2.1 l ha)
  have hb1 := rp_sz (rp_ex h1.2.1 r hb)
  have la := vd_lt h1.1 (ex_vd h1.2.1 va)
  have lb := vd_lt h1.1 (ex_vd h1.2.1 vb)
  have hdl := dp_sz l
  have hdr := dp_sz r
  have hmt : nmt N ≤ 120 := hN.2.2.2.1
  have hle : 120 ≤ nle N := hN.2.2.2.2.1
  have hlen : nle N ≤ nen N := hN.2.2.2.2.2.1
  have na : a ≠ nen N := by
    unfold vd at va
    omega
  have nb : b ≠ nen N := by
    unfold vd at vb
    omega
  have hf := c_fill2 (N := N1) (p := nen N) (k := kd) (a := a) (b := b) (by omega) h1.1.2.2.2.2.2.2.2.2 la.1 lb.1 na nb ha1.1 hb1.1 ha1.2 hb1.2 ⟨hl, hr, by omega, by omega⟩
  obtain ⟨g1, g2, g3⟩ := c_put (x1 := jn kd) (x2 := jn a) (x3 := jn b) h1 h2 h3 he rfl rfl rfl
    (S := upd (upd N1.2.2.2.1 (nen N) (jn 1)) (nen N) (jn (1 + sz l + sz r))) (D := upd (upd N1.2.2.2.2.1 (nen N) (jn 1)) (nen N) (jn (1 + Nat.max (dp l) (dp r)))) (fun p hp => by rw [j_upd, if_neg hp, j_upd, if_neg hp]) (fun p hp => by rw [j_upd, if_neg hp, j_upd, if_neg hp])
  exact ⟨_, k1, n1, h4 _ _ _ _ _ _ _ _ hf, g1, g2, g3, if_pos rfl, if_pos rfl, if_pos rfl, a, b, if_pos rfl, if_pos rfl, rp_ex g1.2.1 l ha, rp_ex g1.2.1 r hb⟩
