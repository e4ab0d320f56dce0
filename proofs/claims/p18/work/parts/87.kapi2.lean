/-! ===== make, keep, declare, define, typeOf: the class alone ===== -/
def Kg (q : Nat) (N : cN) (p x y : Int32) (t : tm) : Prop := okt 9 q 10 t ∧ sz t ≤ 60 ∧ dp t ≤ 12 ∧ ((∃ m, t = .leaf m ∧ p = jn (m % 10) ∧ x = jn (m / 10)) ∨
  (∃ k a b s r, t = .branch k s r ∧ p = jn k ∧ x = jn a ∧ y = jn b ∧ a < nmt N ∧ b < nmt N ∧ Rp (dr N) a s ∧ Rp (dr N) b r))
/-- more terms, and all else as it was -/
def Ky (N N' : cN) : Prop := nmt N ≤ nmt N' ∧ Gx (dr N) (dr N') ∧ N'.2.2.2.2.2.2.2 = N.2.2.2.2.2.2.2 ∧ ncap N' = ncap N
theorem ky_refl (N : cN) : Ky N N := ⟨Nat.le_refl _, fun p h => ⟨h, rfl, rfl, rfl, rfl, rfl⟩, rfl, rfl⟩
theorem ky_trans {N N' N'' : cN} (h : Ky N N') (h' : Ky N' N'') : Ky N N'' := by
  obtain ⟨a1, a2, a3, a4⟩ := h
  obtain ⟨b1, b2, b3, b4⟩ := h'
  exact ⟨by omega, gx_trans a2 b2, b3.trans a3, b4.trans a4⟩
theorem kx_ky {N N' : cN} (h : Ky N N') (k n : Nat) : Kx N N' k n k n := by
  obtain ⟨a1, a2, a3, a4⟩ := h
  exact ⟨a1, a2, by omega, by omega⟩
section K
variable {fl d q : Nat} {N : cN} {C : cC} {ct : Nat → tm} {bo : Nat → Option tm}
theorem kv_add (h : Kv q N C ct bo) (hm : nmt N < 120) {k a b s d : Int32} {t : tm} (ht : Rp (addN (dr N) k a b s d) (nmt N) t) (hk : okt 9 q 10 t) (h60 : sz t ≤ 60) (hd : dp t ≤ 12) : Kv q (addN N k a b s d) C ct bo ∧ Ky N (addN N k a b s d) ∧ nmt (addN N k a b s d) = nmt N + 1 ∧ Rp (dr (addN N k a b s d)) (nmt N) t := by
  obtain ⟨h1, h2, h3, h4, h5⟩ := h
  have hgx := gx_add (N := dr N) (dr_ni h1) hm (k := k) (a := a) (b := b) (s := s) (d := d)
  have e : nmt (addN N k a b s d) = nmt N + 1 := nmt_add hm
  refine ⟨⟨ni_add h1 hm, h2, fun p hp => ?_, ci_gx hgx h4, h5⟩, ⟨by omega, hgx, rfl, rfl⟩, e, ht⟩
  by_cases hpm : p = nmt N
  · subst hpm
    exact ⟨t, ht, hk, h60, hd⟩
  · obtain ⟨t', g1, g2⟩ := h3 p (by omega)
    exact ⟨t', rp_gx hgx t' g1, g2⟩
theorem k_new (h : Kv q N C ct bo) {p x y : Int32} {t : tm} (hg : Kg q N p x y t) (y' : Int32) (hy : (∃ m, t = .leaf m ∧ y' = jng) ∨ ((∃ k s r, t = .branch k s r) ∧ y' = y)) :
    (nmt N = 120 ∧ fN_addTerm N p x y' = some (jng, N)) ∨
    (nmt N < 120 ∧ ∃ s d, fN_addTerm N p x y' = some (jn (nmt N), addN N p x y' s d) ∧ Kv q (addN N p x y' s d) C ct bo ∧ Ky N (addN N p x y' s d) ∧ nmt (addN N p x y' s d) = nmt N + 1 ∧ Rp (dr (addN N p x y' s d)) (nmt N) t) := by
  have hkv := h
  obtain ⟨hN, -, hT, hC, -⟩ := h
  have h120 : nmt N ≤ 120 := hN.2.2.2.1
  by_cases hm : nmt N < 120
  · refine .inr ⟨hm, ?_⟩
    have hv : ∀ k a b s d, vd (addN (dr N) k a b s d) (nmt N) := by
      intro k a b s d
      left
      rw [nmt_add (N := dr N) hm]
      exact Nat.lt_succ_self _
    obtain ⟨hk, h60, hd, ⟨m, rfl, rfl, rfl⟩ | ⟨k, a, b, s, r, rfl, rfl, rfl, rfl, ha, hb, hs, hr⟩⟩ := hg
    · have hy' : y' = jng := by
        rcases hy with ⟨-, -, e⟩ | ⟨⟨k, s, r, e⟩, -⟩
        · exact e
        · cases e
      subst hy'
      exact ⟨jn 1, jn 1, c_tleaf hN hm _ _, kv_add hkv hm ⟨hv _ _ _ _ _, if_pos rfl, if_pos rfl, if_pos rfl, if_pos rfl, if_pos rfl⟩ hk h60 hd⟩
    · have hy' : y' = jn b := by
        rcases hy with ⟨m, e, -⟩ | ⟨-, e⟩
        · cases e
        · exact e
      subst hy'
      have hss := sz_pos s
      have hst := sz_pos r
      have h60' := h60
      simp only [sz] at h60'
      have hgx := gx_add (N := dr N) (dr_ni hN) hm (k := jn k) (a := jn a) (b := jn b) (s := jn (1 + sz s + sz r)) (d := jn (1 + Nat.max (dp s) (dp r)))
      exact ⟨_, _, c_tbranch hN hm k (rp_ex (dr_ex hN) s hs) (rp_ex (dr_ex hN) r hr) ha hb (by omega) (by omega), kv_add hkv hm ⟨hv _ _ _ _ _, if_pos rfl, if_pos rfl, if_pos rfl, a, b, if_pos rfl, if_pos rfl, rp_gx hgx s hs, rp_gx hgx r hr⟩ hk h60 hd⟩
  · exact .inl ⟨by omega, c_tfull hN (by omega) _ _ _⟩
theorem k_is (hN : NI N) {x : Nat} (hx : x < nmt N) : fN_isTerm N (jn x) = some true := by
  rcases c_isTerm hN (jn x) with ⟨h1, -⟩ | ⟨-, h2⟩
  · exact h1
  · exact absurd rfl (h2 x hx)
/-- a sign, made -/
theorem k_leaf (h : Kv q N C ct bo) (hm : nmt N < 120) {m : Nat} (hk : okt 9 q 10 (.leaf m)) (y : Int32) : ∃ N', fJ_make N C (jn (m % 10)) (jn (m / 10)) y = some (jn (nmt N), N') ∧ Kv q N' C ct bo ∧ Ky N N' ∧ nmt N' = nmt N + 1 ∧ Rp (dr N') (nmt N) (.leaf m) := by
  have hC := h.2.2.2.1
  have hq : q ≤ 16 := hC.2.1
  have hm10 : m % 10 = 0 ∨ m % 10 = 1 ∨ m % 10 = 5 := by
    simp only [okt] at hk
    omega
  have hh := cj_parts (k := m % 10) (by omega)
  rw [decide_eq_false (by omega)] at hh
  have hmay : fJ_mayBeMade N C (jn (m % 10)) (jn (m / 10)) y = some true := by
    simp only [okt] at hk
    rcases hm10 with h0 | h1 | h5
    · rw [h0]
      unfold fJ_mayBeMade
      (repeat (first | (with_reducible refine ifn ?_ ?_; (focus (simp (disch := omega) only [jlo, jl0, jl1, jl2, jl3, jl4, jl5, jl9, jl10, jl12, jl16, jl30, jl60, jl63, jl64, jl80, jl100, jl120, jl512, jlM, jlm, j_lt, j_le, j_eq, j_add, j_mul, j_div, j_mod, j_sub, j_m1, j_nelt, j_melt, j_nele, j_mele, j_neeq, j_meeq, j_nat, j_bz0, j_bz1, jc_le0, jc_le1, jc_lt0, jc_lt1, jc_eq0, jc_eq1, Nat.not_lt_zero, Nat.zero_le, ne_eq, false_or, or_false, true_or, or_true, not_false_eq_true, not_true_eq_false, ↓reduceIte, Option.bind_some, Nat.add_sub_cancel, Nat.add_sub_cancel_left, reduceCtorEq, Option.some.injEq, Prod.mk.injEq, true_and, and_true, decide_true, decide_false, Bool.true_eq_false, Bool.false_eq_true, Bool.not_eq_true, Bool.not_eq_false]; done))) | (with_reducible refine ifp ?_ ?_; (focus (simp (disch := omega) only [jlo, jl0, jl1, jl2, jl3, jl4, jl5, jl9, jl10, jl12, jl16, jl30, jl60, jl63, jl64, jl80, jl100, jl120, jl512, jlM, jlm, j_lt, j_le, j_eq, j_add, j_mul, j_div, j_mod, j_sub, j_m1, j_nelt, j_melt, j_nele, j_mele, j_neeq, j_meeq, j_nat, j_bz0, j_bz1, jc_le0, jc_le1, jc_lt0, jc_lt1, jc_eq0, jc_eq1, Nat.not_lt_zero, Nat.zero_le, ne_eq, false_or, or_false, true_or, or_true, not_false_eq_true, not_true_eq_false, ↓reduceIte, Option.bind_some, Nat.add_sub_cancel, Nat.add_sub_cancel_left, reduceCtorEq, Option.some.injEq, Prod.mk.injEq, true_and, and_true, decide_true, decide_false, Bool.true_eq_false, Bool.false_eq_true, Bool.not_eq_true, Bool.not_eq_false]; done))) | (with_reducible apply bnd1; (focus ((try simp (disch := omega) only [jlo, jl0, jl1, jl2, jl3, jl4, jl5, jl9, jl10, jl12, jl16, jl30, jl60, jl63, jl64, jl80, jl100, jl120, jl512, jlM, jlm, j_lt, j_le, j_eq, j_add, j_mul, j_div, j_mod, j_sub, j_m1, j_nelt, j_melt, j_nele, j_mele, j_neeq, j_meeq, j_nat, j_bz0, j_bz1, jc_le0, jc_le1, jc_lt0, jc_lt1, jc_eq0, jc_eq1, Nat.not_lt_zero, Nat.zero_le, ne_eq, false_or, or_false, true_or, or_true, not_false_eq_true, not_true_eq_false, ↓reduceIte, Option.bind_some, Nat.add_sub_cancel, Nat.add_sub_cancel_left, reduceCtorEq, Option.some.injEq, Prod.mk.injEq, true_and, and_true, decide_true, decide_false, Bool.true_eq_false, Bool.false_eq_true, Bool.not_eq_true, Bool.not_eq_false]); exact rfl)); with_reducible refine bnd rfl ?_)))
      rfl
    · rw [h1]
      unfold fJ_mayBeMade
      (repeat (first | (with_reducible refine ifn ?_ ?_; (focus (simp (disch := omega) only [jlo, jl0, jl1, jl2, jl3, jl4, jl5, jl9, jl10, jl12, jl16, jl30, jl60, jl63, jl64, jl80, jl100, jl120, jl512, jlM, jlm, j_lt, j_le, j_eq, j_add, j_mul, j_div, j_mod, j_sub, j_m1, j_nelt, j_melt, j_nele, j_mele, j_neeq, j_meeq, j_nat, j_bz0, j_bz1, jc_le0, jc_le1, jc_lt0, jc_lt1, jc_eq0, jc_eq1, Nat.not_lt_zero, Nat.zero_le, ne_eq, false_or, or_false, true_or, or_true, not_false_eq_true, not_true_eq_false, ↓reduceIte, Option.bind_some, Nat.add_sub_cancel, Nat.add_sub_cancel_left, reduceCtorEq, Option.some.injEq, Prod.mk.injEq, true_and, and_true, decide_true, decide_false, Bool.true_eq_false, Bool.false_eq_true, Bool.not_eq_true, Bool.not_eq_false]; done))) | (with_reducible refine ifp ?_ ?_; (focus (simp (disch := omega) only [jlo, jl0, jl1, jl2, jl3, jl4, jl5, jl9, jl10, jl12, jl16, jl30, jl60, jl63, jl64, jl80, jl100, jl120, jl512, jlM, jlm, j_lt, j_le, j_eq, j_add, j_mul, j_div, j_mod, j_sub, j_m1, j_nelt, j_melt, j_nele, j_mele, j_neeq, j_meeq, j_nat, j_bz0, j_bz1, jc_le0, jc_le1, jc_lt0, jc_lt1, jc_eq0, jc_eq1, Nat.not_lt_zero, Nat.zero_le, ne_eq, false_or, or_false, true_or, or_true, not_false_eq_true, not_true_eq_false, ↓reduceIte, Option.bind_some, Nat.add_sub_cancel, Nat.add_sub_cancel_left, reduceCtorEq, Option.some.injEq, Prod.mk.injEq, true_and, and_true, decide_true, decide_false, Bool.true_eq_false, Bool.false_eq_true, Bool.not_eq_true, Bool.not_eq_false]; done))) | (with_reducible apply bnd1; (focus ((try simp (disch := omega) only [jlo, jl0, jl1, jl2, jl3, jl4, jl5, jl9, jl10, jl12, jl16, jl30, jl60, jl63, jl64, jl80, jl100, jl120, jl512, jlM, jlm, j_lt, j_le, j_eq, j_add, j_mul, j_div, j_mod, j_sub, j_m1, j_nelt, j_melt, j_nele, j_mele, j_neeq, j_meeq, j_nat, j_bz0, j_bz1, jc_le0, jc_le1, jc_lt0, jc_lt1, jc_eq0, jc_eq1, Nat.not_lt_zero, Nat.zero_le, ne_eq, false_or, or_false, true_or, or_true, not_false_eq_true, not_true_eq_false, ↓reduceIte, Option.bind_some, Nat.add_sub_cancel, Nat.add_sub_cancel_left, reduceCtorEq, Option.some.injEq, Prod.mk.injEq, true_and, and_true, decide_true, decide_false, Bool.true_eq_false, Bool.false_eq_true, Bool.not_eq_true, Bool.not_eq_false]); exact rfl)); with_reducible refine bnd rfl ?_)))
      rfl
    · rw [h5]
      rcases c_there hC (jn (m / 10)) with ⟨c, hc, -, g1⟩ | ⟨-, g2⟩
      · unfold fJ_mayBeMade
        (repeat (first | (with_reducible refine ifn ?_ ?_; (focus (simp (disch := omega) only [jlo, jl0, jl1, jl2, jl3, jl4, jl5, jl9, jl10, jl12, jl16, jl30, jl60, jl63, jl64, jl80, jl100, jl120, jl512, jlM, jlm, j_lt, j_le, j_eq, j_add, j_mul, j_div, j_mod, j_sub, j_m1, j_nelt, j_melt, j_nele, j_mele, j_neeq, j_meeq, j_nat, j_bz0, j_bz1, jc_le0, jc_le1, jc_lt0, jc_lt1, jc_eq0, jc_eq1, Nat.not_lt_zero, Nat.zero_le, ne_eq, false_or, or_false, true_or, or_true, not_false_eq_true, not_true_eq_false, ↓reduceIte, Option.bind_some, Nat.add_sub_cancel, Nat.add_sub_cancel_left, reduceCtorEq, Option.some.injEq, Prod.mk.injEq, true_and, and_true, decide_true, decide_false, Bool.true_eq_false, Bool.false_eq_true, Bool.not_eq_true, Bool.not_eq_false, g1]; done))) | (with_reducible refine ifp ?_ ?_; (focus (simp (disch := omega) only [jlo, jl0, jl1, jl2, jl3, jl4, jl5, jl9, jl10, jl12, jl16, jl30, jl60, jl63, jl64, jl80, jl100, jl120, jl512, jlM, jlm, j_lt, j_le, j_eq, j_add, j_mul, j_div, j_mod, j_sub, j_m1, j_nelt, j_melt, j_nele, j_mele, j_neeq, j_meeq, j_nat, j_bz0, j_bz1, jc_le0, jc_le1, jc_lt0, jc_lt1, jc_eq0, jc_eq1, Nat.not_lt_zero, Nat.zero_le, ne_eq, false_or, or_false, true_or, or_true, not_false_eq_true, not_true_eq_false, ↓reduceIte, Option.bind_some, Nat.add_sub_cancel, Nat.add_sub_cancel_left, reduceCtorEq, Option.some.injEq, Prod.mk.injEq, true_and, and_true, decide_true, decide_false, Bool.true_eq_false, Bool.false_eq_true, Bool.not_eq_true, Bool.not_eq_false, g1]; done))) | (with_reducible apply bnd1; (focus ((try simp (disch := omega) only [jlo, jl0, jl1, jl2, jl3, jl4, jl5, jl9, jl10, jl12, jl16, jl30, jl60, jl63, jl64, jl80, jl100, jl120, jl512, jlM, jlm, j_lt, j_le, j_eq, j_add, j_mul, j_div, j_mod, j_sub, j_m1, j_nelt, j_melt, j_nele, j_mele, j_neeq, j_meeq, j_nat, j_bz0, j_bz1, jc_le0, jc_le1, jc_lt0, jc_lt1, jc_eq0, jc_eq1, Nat.not_lt_zero, Nat.zero_le, ne_eq, false_or, or_false, true_or, or_true, not_false_eq_true, not_true_eq_false, ↓reduceIte, Option.bind_some, Nat.add_sub_cancel, Nat.add_sub_cancel_left, reduceCtorEq, Option.some.injEq, Prod.mk.injEq, true_and, and_true, decide_true, decide_false, Bool.true_eq_false, Bool.false_eq_true, Bool.not_eq_true, Bool.not_eq_false, g1]); exact rfl)); with_reducible refine bnd rfl ?_)))
        rfl
      · exact absurd rfl (g2 (m / 10) (by omega))
  rcases k_new h (p := jn (m % 10)) (x := jn (m / 10)) (y := y) (t := .leaf m) ⟨hk, by simp only [sz]; omega, by simp only [dp]; omega, .inl ⟨m, rfl, rfl, rfl⟩⟩ jng (.inl ⟨m, rfl, rfl⟩) with ⟨g1, -⟩ | ⟨-, s, d, g1, g2⟩
  · omega
  · refine ⟨_, ?_, g2⟩
    unfold fJ_make
    exact bnd hmay (ifp (by decide) (bnd hh (ifp rfl (bnd g1 rfl))))
/-- a node with parts, made -/
theorem k_branch (h : Kv q N C ct bo) (hm : nmt N < 120) {k a b : Nat} {s r : tm} (hkk : k = 2 ∨ k = 3 ∨ k = 4) (ha : a < nmt N) (hb : b < nmt N) (hs : Rp (dr N) a s) (hr : Rp (dr N) b r) (hsk : okt 9 q 10 s) (hrk : okt 9 q 10 r) (h60 : sz (.branch k s r) ≤ 60) (hd : dp (.branch k s r) ≤ 12) :
    ∃ N', fJ_make N C (jn k) (jn a) (jn b) = some (jn (nmt N), N') ∧ Kv q N' C ct bo ∧ Ky N N' ∧ nmt N' = nmt N + 1 ∧ Rp (dr N') (nmt N) (.branch k s r) := by
  have hN := h.1
  have hh := cj_parts (k := k) (by omega)
  rw [decide_eq_true (by omega)] at hh
  have h60' := h60
  have hd' := hd
  simp only [sz, dp] at h60' hd'
  have hj := c_join hN (rp_ex (dr_ex hN) s hs) (rp_ex (dr_ex hN) r hr) (by omega) (by omega)
  rw [decide_eq_true ⟨h60', hd'⟩] at hj
  have i1 := k_is hN ha
  have i2 := k_is hN hb
  have hmay : fJ_mayBeMade N C (jn k) (jn a) (jn b) = some true := by
    unfold fJ_mayBeMade
    (repeat (first | (with_reducible refine ifn ?_ ?_; (focus (simp (disch := omega) only [jlo, jl0, jl1, jl2, jl3, jl4, jl5, jl9, jl10, jl12, jl16, jl30, jl60, jl63, jl64, jl80, jl100, jl120, jl512, jlM, jlm, j_lt, j_le, j_eq, j_add, j_mul, j_div, j_mod, j_sub, j_m1, j_nelt, j_melt, j_nele, j_mele, j_neeq, j_meeq, j_nat, j_bz0, j_bz1, jc_le0, jc_le1, jc_lt0, jc_lt1, jc_eq0, jc_eq1, Nat.not_lt_zero, Nat.zero_le, ne_eq, false_or, or_false, true_or, or_true, not_false_eq_true, not_true_eq_false, ↓reduceIte, Option.bind_some, Nat.add_sub_cancel, Nat.add_sub_cancel_left, reduceCtorEq, Option.some.injEq, Prod.mk.injEq, true_and, and_true, decide_true, decide_false, Bool.true_eq_false, Bool.false_eq_true, Bool.not_eq_true, Bool.not_eq_false, hh, i1, i2, hj]; done))) | (with_reducible refine ifp ?_ ?_; (focus (simp (disch := omega) only [jlo, jl0, jl1, jl2, jl3, jl4, jl5, jl9, jl10, jl12, jl16, jl30, jl60, jl63, jl64, jl80, jl100, jl120, jl512, jlM, jlm, j_lt, j_le, j_eq, j_add, j_mul, j_div, j_mod, j_sub, j_m1, j_nelt, j_melt, j_nele, j_mele, j_neeq, j_meeq, j_nat, j_bz0, j_bz1, jc_le0, jc_le1, jc_lt0, jc_lt1, jc_eq0, jc_eq1, Nat.not_lt_zero, Nat.zero_le, ne_eq, false_or, or_false, true_or, or_true, not_false_eq_true, not_true_eq_false, ↓reduceIte, Option.bind_some, Nat.add_sub_cancel, Nat.add_sub_cancel_left, reduceCtorEq, Option.some.injEq, Prod.mk.injEq, true_and, and_true, decide_true, decide_false, Bool.true_eq_false, Bool.false_eq_true, Bool.not_eq_true, Bool.not_eq_false, hh, i1, i2, hj]; done))) | (with_reducible apply bnd1; (focus ((try simp (disch := omega) only [jlo, jl0, jl1, jl2, jl3, jl4, jl5, jl9, jl10, jl12, jl16, jl30, jl60, jl63, jl64, jl80, jl100, jl120, jl512, jlM, jlm, j_lt, j_le, j_eq, j_add, j_mul, j_div, j_mod, j_sub, j_m1, j_nelt, j_melt, j_nele, j_mele, j_neeq, j_meeq, j_nat, j_bz0, j_bz1, jc_le0, jc_le1, jc_lt0, jc_lt1, jc_eq0, jc_eq1, Nat.not_lt_zero, Nat.zero_le, ne_eq, false_or, or_false, true_or, or_true, not_false_eq_true, not_true_eq_false, ↓reduceIte, Option.bind_some, Nat.add_sub_cancel, Nat.add_sub_cancel_left, reduceCtorEq, Option.some.injEq, Prod.mk.injEq, true_and, and_true, decide_true, decide_false, Bool.true_eq_false, Bool.false_eq_true, Bool.not_eq_true, Bool.not_eq_false, hh, i1, i2, hj]); exact rfl)); with_reducible refine bnd rfl ?_)))
    rfl
  have hk : okt 9 q 10 (.branch k s r) := ⟨hkk, hsk, okt_mono (Nat.le_refl 9) (Nat.le_refl q) r (Nat.le_add_right 10 _) hrk⟩
  rcases k_new h (p := jn k) (x := jn a) (y := jn b) (t := .branch k s r) ⟨hk, h60, hd, .inr ⟨k, a, b, s, r, rfl, rfl, rfl, rfl, ha, hb, hs, hr⟩⟩ (jn b) (.inr ⟨⟨k, s, r, rfl⟩, rfl⟩) with ⟨g1, -⟩ | ⟨-, s', d', g1, g2⟩
  · omega
  · refine ⟨_, ?_, g2⟩
    unfold fJ_make
    exact bnd hmay (ifp (by decide) (bnd hh (ifn (by decide) (bnd g1 rfl))))
/-- may it be made -/
theorem k_may (h : Kv q N C ct bo) (p x y : Int32) : (fJ_mayBeMade N C p x y = some true ∧ ((∃ m, p = jn (m % 10) ∧ x = jn (m / 10) ∧ okt 9 q 10 (.leaf m)) ∨ ∃ k a b, (k = 2 ∨ k = 3 ∨ k = 4) ∧ p = jn k ∧ x = jn a ∧ y = jn b ∧ a < nmt N ∧ b < nmt N ∧ ∃ s r, Rp (dr N) a s ∧ Rp (dr N) b r ∧ okt 9 q 10 s ∧ okt 9 q 10 r ∧ sz (.branch k s r) ≤ 60 ∧ dp (.branch k s r) ≤ 12)) ∨ fJ_mayBeMade N C p x y = some false := by
  obtain ⟨hN, -, hT, hC, -⟩ := h
  have hq : q ≤ 16 := hC.2.1
  have nop : ∀ k, k = 0 ∨ k = 1 ∨ 5 ≤ k → k < 2147483648 → fJ_hasParts (jn k) = some false := by
    intro k hk hk2
    unfold fJ_hasParts
    (repeat (first | (with_reducible refine ifn ?_ ?_; (focus (simp (disch := omega) only [jlo, jl0, jl1, jl2, jl3, jl4, jl5, jl9, jl10, jl12, jl16, jl30, jl60, jl63, jl64, jl80, jl100, jl120, jl512, jlM, jlm, j_lt, j_le, j_eq, j_add, j_mul, j_div, j_mod, j_sub, j_m1, j_nelt, j_melt, j_nele, j_mele, j_neeq, j_meeq, j_nat, j_bz0, j_bz1, jc_le0, jc_le1, jc_lt0, jc_lt1, jc_eq0, jc_eq1, Nat.not_lt_zero, Nat.zero_le, ne_eq, false_or, or_false, true_or, or_true, not_false_eq_true, not_true_eq_false, ↓reduceIte, Option.bind_some, Nat.add_sub_cancel, Nat.add_sub_cancel_left, reduceCtorEq, Option.some.injEq, Prod.mk.injEq, true_and, and_true, decide_true, decide_false, Bool.true_eq_false, Bool.false_eq_true, Bool.not_eq_true, Bool.not_eq_false]; done))) | (with_reducible refine ifp ?_ ?_; (focus (simp (disch := omega) only [jlo, jl0, jl1, jl2, jl3, jl4, jl5, jl9, jl10, jl12, jl16, jl30, jl60, jl63, jl64, jl80, jl100, jl120, jl512, jlM, jlm, j_lt, j_le, j_eq, j_add, j_mul, j_div, j_mod, j_sub, j_m1, j_nelt, j_melt, j_nele, j_mele, j_neeq, j_meeq, j_nat, j_bz0, j_bz1, jc_le0, jc_le1, jc_lt0, jc_lt1, jc_eq0, jc_eq1, Nat.not_lt_zero, Nat.zero_le, ne_eq, false_or, or_false, true_or, or_true, not_false_eq_true, not_true_eq_false, ↓reduceIte, Option.bind_some, Nat.add_sub_cancel, Nat.add_sub_cancel_left, reduceCtorEq, Option.some.injEq, Prod.mk.injEq, true_and, and_true, decide_true, decide_false, Bool.true_eq_false, Bool.false_eq_true, Bool.not_eq_true, Bool.not_eq_false]; done))) | (with_reducible apply bnd1; (focus ((try simp (disch := omega) only [jlo, jl0, jl1, jl2, jl3, jl4, jl5, jl9, jl10, jl12, jl16, jl30, jl60, jl63, jl64, jl80, jl100, jl120, jl512, jlM, jlm, j_lt, j_le, j_eq, j_add, j_mul, j_div, j_mod, j_sub, j_m1, j_nelt, j_melt, j_nele, j_mele, j_neeq, j_meeq, j_nat, j_bz0, j_bz1, jc_le0, jc_le1, jc_lt0, jc_lt1, jc_eq0, jc_eq1, Nat.not_lt_zero, Nat.zero_le, ne_eq, false_or, or_false, true_or, or_true, not_false_eq_true, not_true_eq_false, ↓reduceIte, Option.bind_some, Nat.add_sub_cancel, Nat.add_sub_cancel_left, reduceCtorEq, Option.some.injEq, Prod.mk.injEq, true_and, and_true, decide_true, decide_false, Bool.true_eq_false, Bool.false_eq_true, Bool.not_eq_true, Bool.not_eq_false]); exact rfl)); with_reducible refine bnd rfl ?_)))
    rfl
  rcases j_any p with hp | ⟨k, hk, rfl⟩
  · refine .inr ?_
    have hh : fJ_hasParts p = some false := by
      unfold fJ_hasParts
      exact ifn (z_neg hp (by omega : 2 < 2147483648)) (ifn (z_neg hp (by omega : 3 < 2147483648)) (ifp (z_neg hp (by omega : 4 < 2147483648)) rfl))
    unfold fJ_mayBeMade
    exact ifn (z_neg hp (by omega : 0 < 2147483648)) (ifp (z_neg hp (by omega : 1 < 2147483648)) (ifp (z_neg hp (by omega : 5 < 2147483648)) (bnd hh (ifp rfl rfl))))
  · by_cases k01 : k = 0 ∨ k = 1
    · rcases j_any x with hx | ⟨i, hi, rfl⟩
      · refine .inr ?_
        have hx2 : (x < jn 0) = True := eq_true hx
        unfold fJ_mayBeMade
        rcases k01 with rfl | rfl
        · (repeat (first | (with_reducible refine ifn ?_ ?_; (focus (simp (disch := omega) only [jlo, jl0, jl1, jl2, jl3, jl4, jl5, jl9, jl10, jl12, jl16, jl30, jl60, jl63, jl64, jl80, jl100, jl120, jl512, jlM, jlm, j_lt, j_le, j_eq, j_add, j_mul, j_div, j_mod, j_sub, j_m1, j_nelt, j_melt, j_nele, j_mele, j_neeq, j_meeq, j_nat, j_bz0, j_bz1, jc_le0, jc_le1, jc_lt0, jc_lt1, jc_eq0, jc_eq1, Nat.not_lt_zero, Nat.zero_le, ne_eq, false_or, or_false, true_or, or_true, not_false_eq_true, not_true_eq_false, ↓reduceIte, Option.bind_some, Nat.add_sub_cancel, Nat.add_sub_cancel_left, reduceCtorEq, Option.some.injEq, Prod.mk.injEq, true_and, and_true, decide_true, decide_false, Bool.true_eq_false, Bool.false_eq_true, Bool.not_eq_true, Bool.not_eq_false, hx2]; done))) | (with_reducible refine ifp ?_ ?_; (focus (simp (disch := omega) only [jlo, jl0, jl1, jl2, jl3, jl4, jl5, jl9, jl10, jl12, jl16, jl30, jl60, jl63, jl64, jl80, jl100, jl120, jl512, jlM, jlm, j_lt, j_le, j_eq, j_add, j_mul, j_div, j_mod, j_sub, j_m1, j_nelt, j_melt, j_nele, j_mele, j_neeq, j_meeq, j_nat, j_bz0, j_bz1, jc_le0, jc_le1, jc_lt0, jc_lt1, jc_eq0, jc_eq1, Nat.not_lt_zero, Nat.zero_le, ne_eq, false_or, or_false, true_or, or_true, not_false_eq_true, not_true_eq_false, ↓reduceIte, Option.bind_some, Nat.add_sub_cancel, Nat.add_sub_cancel_left, reduceCtorEq, Option.some.injEq, Prod.mk.injEq, true_and, and_true, decide_true, decide_false, Bool.true_eq_false, Bool.false_eq_true, Bool.not_eq_true, Bool.not_eq_false, hx2]; done))) | (with_reducible apply bnd1; (focus ((try simp (disch := omega) only [jlo, jl0, jl1, jl2, jl3, jl4, jl5, jl9, jl10, jl12, jl16, jl30, jl60, jl63, jl64, jl80, jl100, jl120, jl512, jlM, jlm, j_lt, j_le, j_eq, j_add, j_mul, j_div, j_mod, j_sub, j_m1, j_nelt, j_melt, j_nele, j_mele, j_neeq, j_meeq, j_nat, j_bz0, j_bz1, jc_le0, jc_le1, jc_lt0, jc_lt1, jc_eq0, jc_eq1, Nat.not_lt_zero, Nat.zero_le, ne_eq, false_or, or_false, true_or, or_true, not_false_eq_true, not_true_eq_false, ↓reduceIte, Option.bind_some, Nat.add_sub_cancel, Nat.add_sub_cancel_left, reduceCtorEq, Option.some.injEq, Prod.mk.injEq, true_and, and_true, decide_true, decide_false, Bool.true_eq_false, Bool.false_eq_true, Bool.not_eq_true, Bool.not_eq_false, hx2]); exact rfl)); with_reducible refine bnd rfl ?_)))
          rfl
        · (repeat (first | (with_reducible refine ifn ?_ ?_; (focus (simp (disch := omega) only [jlo, jl0, jl1, jl2, jl3, jl4, jl5, jl9, jl10, jl12, jl16, jl30, jl60, jl63, jl64, jl80, jl100, jl120, jl512, jlM, jlm, j_lt, j_le, j_eq, j_add, j_mul, j_div, j_mod, j_sub, j_m1, j_nelt, j_melt, j_nele, j_mele, j_neeq, j_meeq, j_nat, j_bz0, j_bz1, jc_le0, jc_le1, jc_lt0, jc_lt1, jc_eq0, jc_eq1, Nat.not_lt_zero, Nat.zero_le, ne_eq, false_or, or_false, true_or, or_true, not_false_eq_true, not_true_eq_false, ↓reduceIte, Option.bind_some, Nat.add_sub_cancel, Nat.add_sub_cancel_left, reduceCtorEq, Option.some.injEq, Prod.mk.injEq, true_and, and_true, decide_true, decide_false, Bool.true_eq_false, Bool.false_eq_true, Bool.not_eq_true, Bool.not_eq_false, hx2]; done))) | (with_reducible refine ifp ?_ ?_; (focus (simp (disch := omega) only [jlo, jl0, jl1, jl2, jl3, jl4, jl5, jl9, jl10, jl12, jl16, jl30, jl60, jl63, jl64, jl80, jl100, jl120, jl512, jlM, jlm, j_lt, j_le, j_eq, j_add, j_mul, j_div, j_mod, j_sub, j_m1, j_nelt, j_melt, j_nele, j_mele, j_neeq, j_meeq, j_nat, j_bz0, j_bz1, jc_le0, jc_le1, jc_lt0, jc_lt1, jc_eq0, jc_eq1, Nat.not_lt_zero, Nat.zero_le, ne_eq, false_or, or_false, true_or, or_true, not_false_eq_true, not_true_eq_false, ↓reduceIte, Option.bind_some, Nat.add_sub_cancel, Nat.add_sub_cancel_left, reduceCtorEq, Option.some.injEq, Prod.mk.injEq, true_and, and_true, decide_true, decide_false, Bool.true_eq_false, Bool.false_eq_true, Bool.not_eq_true, Bool.not_eq_false, hx2]; done))) | (with_reducible apply bnd1; (focus ((try simp (disch := omega) only [jlo, jl0, jl1, jl2, jl3, jl4, jl5, jl9, jl10, jl12, jl16, jl30, jl60, jl63, jl64, jl80, jl100, jl120, jl512, jlM, jlm, j_lt, j_le, j_eq, j_add, j_mul, j_div, j_mod, j_sub, j_m1, j_nelt, j_melt, j_nele, j_mele, j_neeq, j_meeq, j_nat, j_bz0, j_bz1, jc_le0, jc_le1, jc_lt0, jc_lt1, jc_eq0, jc_eq1, Nat.not_lt_zero, Nat.zero_le, ne_eq, false_or, or_false, true_or, or_true, not_false_eq_true, not_true_eq_false, ↓reduceIte, Option.bind_some, Nat.add_sub_cancel, Nat.add_sub_cancel_left, reduceCtorEq, Option.some.injEq, Prod.mk.injEq, true_and, and_true, decide_true, decide_false, Bool.true_eq_false, Bool.false_eq_true, Bool.not_eq_true, Bool.not_eq_false, hx2]); exact rfl)); with_reducible refine bnd rfl ?_)))
          rfl
      · by_cases h9 : i ≤ 9
        · refine .inl ⟨?_, .inl ⟨k + 10 * i, by rw [show (k + 10 * i) % 10 = k by omega], by rw [show (k + 10 * i) / 10 = i by omega], ?_⟩⟩
          · unfold fJ_mayBeMade
            rcases k01 with rfl | rfl
            · (repeat (first | (with_reducible refine ifn ?_ ?_; (focus (simp (disch := omega) only [jlo, jl0, jl1, jl2, jl3, jl4, jl5, jl9, jl10, jl12, jl16, jl30, jl60, jl63, jl64, jl80, jl100, jl120, jl512, jlM, jlm, j_lt, j_le, j_eq, j_add, j_mul, j_div, j_mod, j_sub, j_m1, j_nelt, j_melt, j_nele, j_mele, j_neeq, j_meeq, j_nat, j_bz0, j_bz1, jc_le0, jc_le1, jc_lt0, jc_lt1, jc_eq0, jc_eq1, Nat.not_lt_zero, Nat.zero_le, ne_eq, false_or, or_false, true_or, or_true, not_false_eq_true, not_true_eq_false, ↓reduceIte, Option.bind_some, Nat.add_sub_cancel, Nat.add_sub_cancel_left, reduceCtorEq, Option.some.injEq, Prod.mk.injEq, true_and, and_true, decide_true, decide_false, Bool.true_eq_false, Bool.false_eq_true, Bool.not_eq_true, Bool.not_eq_false]; done))) | (with_reducible refine ifp ?_ ?_; (focus (simp (disch := omega) only [jlo, jl0, jl1, jl2, jl3, jl4, jl5, jl9, jl10, jl12, jl16, jl30, jl60, jl63, jl64, jl80, jl100, jl120, jl512, jlM, jlm, j_lt, j_le, j_eq, j_add, j_mul, j_div, j_mod, j_sub, j_m1, j_nelt, j_melt, j_nele, j_mele, j_neeq, j_meeq, j_nat, j_bz0, j_bz1, jc_le0, jc_le1, jc_lt0, jc_lt1, jc_eq0, jc_eq1, Nat.not_lt_zero, Nat.zero_le, ne_eq, false_or, or_false, true_or, or_true, not_false_eq_true, not_true_eq_false, ↓reduceIte, Option.bind_some, Nat.add_sub_cancel, Nat.add_sub_cancel_left, reduceCtorEq, Option.some.injEq, Prod.mk.injEq, true_and, and_true, decide_true, decide_false, Bool.true_eq_false, Bool.false_eq_true, Bool.not_eq_true, Bool.not_eq_false]; done))) | (with_reducible apply bnd1; (focus ((try simp (disch := omega) only [jlo, jl0, jl1, jl2, jl3, jl4, jl5, jl9, jl10, jl12, jl16, jl30, jl60, jl63, jl64, jl80, jl100, jl120, jl512, jlM, jlm, j_lt, j_le, j_eq, j_add, j_mul, j_div, j_mod, j_sub, j_m1, j_nelt, j_melt, j_nele, j_mele, j_neeq, j_meeq, j_nat, j_bz0, j_bz1, jc_le0, jc_le1, jc_lt0, jc_lt1, jc_eq0, jc_eq1, Nat.not_lt_zero, Nat.zero_le, ne_eq, false_or, or_false, true_or, or_true, not_false_eq_true, not_true_eq_false, ↓reduceIte, Option.bind_some, Nat.add_sub_cancel, Nat.add_sub_cancel_left, reduceCtorEq, Option.some.injEq, Prod.mk.injEq, true_and, and_true, decide_true, decide_false, Bool.true_eq_false, Bool.false_eq_true, Bool.not_eq_true, Bool.not_eq_false]); exact rfl)); with_reducible refine bnd rfl ?_)))
              rfl
            · (repeat (first | (with_reducible refine ifn ?_ ?_; (focus (simp (disch := omega) only [jlo, jl0, jl1, jl2, jl3, jl4, jl5, jl9, jl10, jl12, jl16, jl30, jl60, jl63, jl64, jl80, jl100, jl120, jl512, jlM, jlm, j_lt, j_le, j_eq, j_add, j_mul, j_div, j_mod, j_sub, j_m1, j_nelt, j_melt, j_nele, j_mele, j_neeq, j_meeq, j_nat, j_bz0, j_bz1, jc_le0, jc_le1, jc_lt0, jc_lt1, jc_eq0, jc_eq1, Nat.not_lt_zero, Nat.zero_le, ne_eq, false_or, or_false, true_or, or_true, not_false_eq_true, not_true_eq_false, ↓reduceIte, Option.bind_some, Nat.add_sub_cancel, Nat.add_sub_cancel_left, reduceCtorEq, Option.some.injEq, Prod.mk.injEq, true_and, and_true, decide_true, decide_false, Bool.true_eq_false, Bool.false_eq_true, Bool.not_eq_true, Bool.not_eq_false]; done))) | (with_reducible refine ifp ?_ ?_; (focus (simp (disch := omega) only [jlo, jl0, jl1, jl2, jl3, jl4, jl5, jl9, jl10, jl12, jl16, jl30, jl60, jl63, jl64, jl80, jl100, jl120, jl512, jlM, jlm, j_lt, j_le, j_eq, j_add, j_mul, j_div, j_mod, j_sub, j_m1, j_nelt, j_melt, j_nele, j_mele, j_neeq, j_meeq, j_nat, j_bz0, j_bz1, jc_le0, jc_le1, jc_lt0, jc_lt1, jc_eq0, jc_eq1, Nat.not_lt_zero, Nat.zero_le, ne_eq, false_or, or_false, true_or, or_true, not_false_eq_true, not_true_eq_false, ↓reduceIte, Option.bind_some, Nat.add_sub_cancel, Nat.add_sub_cancel_left, reduceCtorEq, Option.some.injEq, Prod.mk.injEq, true_and, and_true, decide_true, decide_false, Bool.true_eq_false, Bool.false_eq_true, Bool.not_eq_true, Bool.not_eq_false]; done))) | (with_reducible apply bnd1; (focus ((try simp (disch := omega) only [jlo, jl0, jl1, jl2, jl3, jl4, jl5, jl9, jl10, jl12, jl16, jl30, jl60, jl63, jl64, jl80, jl100, jl120, jl512, jlM, jlm, j_lt, j_le, j_eq, j_add, j_mul, j_div, j_mod, j_sub, j_m1, j_nelt, j_melt, j_nele, j_mele, j_neeq, j_meeq, j_nat, j_bz0, j_bz1, jc_le0, jc_le1, jc_lt0, jc_lt1, jc_eq0, jc_eq1, Nat.not_lt_zero, Nat.zero_le, ne_eq, false_or, or_false, true_or, or_true, not_false_eq_true, not_true_eq_false, ↓reduceIte, Option.bind_some, Nat.add_sub_cancel, Nat.add_sub_cancel_left, reduceCtorEq, Option.some.injEq, Prod.mk.injEq, true_and, and_true, decide_true, decide_false, Bool.true_eq_false, Bool.false_eq_true, Bool.not_eq_true, Bool.not_eq_false]); exact rfl)); with_reducible refine bnd rfl ?_)))
              rfl
          · simp only [okt]
            omega
        · refine .inr ?_
          unfold fJ_mayBeMade
          rcases k01 with rfl | rfl
          · (repeat (first | (with_reducible refine ifn ?_ ?_; (focus (simp (disch := omega) only [jlo, jl0, jl1, jl2, jl3, jl4, jl5, jl9, jl10, jl12, jl16, jl30, jl60, jl63, jl64, jl80, jl100, jl120, jl512, jlM, jlm, j_lt, j_le, j_eq, j_add, j_mul, j_div, j_mod, j_sub, j_m1, j_nelt, j_melt, j_nele, j_mele, j_neeq, j_meeq, j_nat, j_bz0, j_bz1, jc_le0, jc_le1, jc_lt0, jc_lt1, jc_eq0, jc_eq1, Nat.not_lt_zero, Nat.zero_le, ne_eq, false_or, or_false, true_or, or_true, not_false_eq_true, not_true_eq_false, ↓reduceIte, Option.bind_some, Nat.add_sub_cancel, Nat.add_sub_cancel_left, reduceCtorEq, Option.some.injEq, Prod.mk.injEq, true_and, and_true, decide_true, decide_false, Bool.true_eq_false, Bool.false_eq_true, Bool.not_eq_true, Bool.not_eq_false]; done))) | (with_reducible refine ifp ?_ ?_; (focus (simp (disch := omega) only [jlo, jl0, jl1, jl2, jl3, jl4, jl5, jl9, jl10, jl12, jl16, jl30, jl60, jl63, jl64, jl80, jl100, jl120, jl512, jlM, jlm, j_lt, j_le, j_eq, j_add, j_mul, j_div, j_mod, j_sub, j_m1, j_nelt, j_melt, j_nele, j_mele, j_neeq, j_meeq, j_nat, j_bz0, j_bz1, jc_le0, jc_le1, jc_lt0, jc_lt1, jc_eq0, jc_eq1, Nat.not_lt_zero, Nat.zero_le, ne_eq, false_or, or_false, true_or, or_true, not_false_eq_true, not_true_eq_false, ↓reduceIte, Option.bind_some, Nat.add_sub_cancel, Nat.add_sub_cancel_left, reduceCtorEq, Option.some.injEq, Prod.mk.injEq, true_and, and_true, decide_true, decide_false, Bool.true_eq_false, Bool.false_eq_true, Bool.not_eq_true, Bool.not_eq_false]; done))) | (with_reducible apply bnd1; (focus ((try simp (disch := omega) only [jlo, jl0, jl1, jl2, jl3, jl4, jl5, jl9, jl10, jl12, jl16, jl30, jl60, jl63, jl64, jl80, jl100, jl120, jl512, jlM, jlm, j_lt, j_le, j_eq, j_add, j_mul, j_div, j_mod, j_sub, j_m1, j_nelt, j_melt, j_nele, j_mele, j_neeq, j_meeq, j_nat, j_bz0, j_bz1, jc_le0, jc_le1, jc_lt0, jc_lt1, jc_eq0, jc_eq1, Nat.not_lt_zero, Nat.zero_le, ne_eq, false_or, or_false, true_or, or_true, not_false_eq_true, not_true_eq_false, ↓reduceIte, Option.bind_some, Nat.add_sub_cancel, Nat.add_sub_cancel_left, reduceCtorEq, Option.some.injEq, Prod.mk.injEq, true_and, and_true, decide_true, decide_false, Bool.true_eq_false, Bool.false_eq_true, Bool.not_eq_true, Bool.not_eq_false]); exact rfl)); with_reducible refine bnd rfl ?_)))
            rfl
          · (repeat (first | (with_reducible refine ifn ?_ ?_; (focus (simp (disch := omega) only [jlo, jl0, jl1, jl2, jl3, jl4, jl5, jl9, jl10, jl12, jl16, jl30, jl60, jl63, jl64, jl80, jl100, jl120, jl512, jlM, jlm, j_lt, j_le, j_eq, j_add, j_mul, j_div, j_mod, j_sub, j_m1, j_nelt, j_melt, j_nele, j_mele, j_neeq, j_meeq, j_nat, j_bz0, j_bz1, jc_le0, jc_le1, jc_lt0, jc_lt1, jc_eq0, jc_eq1, Nat.not_lt_zero, Nat.zero_le, ne_eq, false_or, or_false, true_or, or_true, not_false_eq_true, not_true_eq_false, ↓reduceIte, Option.bind_some, Nat.add_sub_cancel, Nat.add_sub_cancel_left, reduceCtorEq, Option.some.injEq, Prod.mk.injEq, true_and, and_true, decide_true, decide_false, Bool.true_eq_false, Bool.false_eq_true, Bool.not_eq_true, Bool.not_eq_false]; done))) | (with_reducible refine ifp ?_ ?_; (focus (simp (disch := omega) only [jlo, jl0, jl1, jl2, jl3, jl4, jl5, jl9, jl10, jl12, jl16, jl30, jl60, jl63, jl64, jl80, jl100, jl120, jl512, jlM, jlm, j_lt, j_le, j_eq, j_add, j_mul, j_div, j_mod, j_sub, j_m1, j_nelt, j_melt, j_nele, j_mele, j_neeq, j_meeq, j_nat, j_bz0, j_bz1, jc_le0, jc_le1, jc_lt0, jc_lt1, jc_eq0, jc_eq1, Nat.not_lt_zero, Nat.zero_le, ne_eq, false_or, or_false, true_or, or_true, not_false_eq_true, not_true_eq_false, ↓reduceIte, Option.bind_some, Nat.add_sub_cancel, Nat.add_sub_cancel_left, reduceCtorEq, Option.some.injEq, Prod.mk.injEq, true_and, and_true, decide_true, decide_false, Bool.true_eq_false, Bool.false_eq_true, Bool.not_eq_true, Bool.not_eq_false]; done))) | (with_reducible apply bnd1; (focus ((try simp (disch := omega) only [jlo, jl0, jl1, jl2, jl3, jl4, jl5, jl9, jl10, jl12, jl16, jl30, jl60, jl63, jl64, jl80, jl100, jl120, jl512, jlM, jlm, j_lt, j_le, j_eq, j_add, j_mul, j_div, j_mod, j_sub, j_m1, j_nelt, j_melt, j_nele, j_mele, j_neeq, j_meeq, j_nat, j_bz0, j_bz1, jc_le0, jc_le1, jc_lt0, jc_lt1, jc_eq0, jc_eq1, Nat.not_lt_zero, Nat.zero_le, ne_eq, false_or, or_false, true_or, or_true, not_false_eq_true, not_true_eq_false, ↓reduceIte, Option.bind_some, Nat.add_sub_cancel, Nat.add_sub_cancel_left, reduceCtorEq, Option.some.injEq, Prod.mk.injEq, true_and, and_true, decide_true, decide_false, Bool.true_eq_false, Bool.false_eq_true, Bool.not_eq_true, Bool.not_eq_false]); exact rfl)); with_reducible refine bnd rfl ?_)))
            rfl
    · by_cases k5 : k = 5
      · subst k5
        rcases c_there hC x with ⟨c, hc, rfl, h1⟩ | ⟨h1, h2⟩
        · refine .inl ⟨?_, .inl ⟨5 + 10 * c, by rw [show (5 + 10 * c) % 10 = 5 by omega], by rw [show (5 + 10 * c) / 10 = c by omega], ?_⟩⟩
          · unfold fJ_mayBeMade
            (repeat (first | (with_reducible refine ifn ?_ ?_; (focus (simp (disch := omega) only [jlo, jl0, jl1, jl2, jl3, jl4, jl5, jl9, jl10, jl12, jl16, jl30, jl60, jl63, jl64, jl80, jl100, jl120, jl512, jlM, jlm, j_lt, j_le, j_eq, j_add, j_mul, j_div, j_mod, j_sub, j_m1, j_nelt, j_melt, j_nele, j_mele, j_neeq, j_meeq, j_nat, j_bz0, j_bz1, jc_le0, jc_le1, jc_lt0, jc_lt1, jc_eq0, jc_eq1, Nat.not_lt_zero, Nat.zero_le, ne_eq, false_or, or_false, true_or, or_true, not_false_eq_true, not_true_eq_false, ↓reduceIte, Option.bind_some, Nat.add_sub_cancel, Nat.add_sub_cancel_left, reduceCtorEq, Option.some.injEq, Prod.mk.injEq, true_and, and_true, decide_true, decide_false, Bool.true_eq_false, Bool.false_eq_true, Bool.not_eq_true, Bool.not_eq_false, h1]; done))) | (with_reducible refine ifp ?_ ?_; (focus (simp (disch := omega) only [jlo, jl0, jl1, jl2, jl3, jl4, jl5, jl9, jl10, jl12, jl16, jl30, jl60, jl63, jl64, jl80, jl100, jl120, jl512, jlM, jlm, j_lt, j_le, j_eq, j_add, j_mul, j_div, j_mod, j_sub, j_m1, j_nelt, j_melt, j_nele, j_mele, j_neeq, j_meeq, j_nat, j_bz0, j_bz1, jc_le0, jc_le1, jc_lt0, jc_lt1, jc_eq0, jc_eq1, Nat.not_lt_zero, Nat.zero_le, ne_eq, false_or, or_false, true_or, or_true, not_false_eq_true, not_true_eq_false, ↓reduceIte, Option.bind_some, Nat.add_sub_cancel, Nat.add_sub_cancel_left, reduceCtorEq, Option.some.injEq, Prod.mk.injEq, true_and, and_true, decide_true, decide_false, Bool.true_eq_false, Bool.false_eq_true, Bool.not_eq_true, Bool.not_eq_false, h1]; done))) | (with_reducible apply bnd1; (focus ((try simp (disch := omega) only [jlo, jl0, jl1, jl2, jl3, jl4, jl5, jl9, jl10, jl12, jl16, jl30, jl60, jl63, jl64, jl80, jl100, jl120, jl512, jlM, jlm, j_lt, j_le, j_eq, j_add, j_mul, j_div, j_mod, j_sub, j_m1, j_nelt, j_melt, j_nele, j_mele, j_neeq, j_meeq, j_nat, j_bz0, j_bz1, jc_le0, jc_le1, jc_lt0, jc_lt1, jc_eq0, jc_eq1, Nat.not_lt_zero, Nat.zero_le, ne_eq, false_or, or_false, true_or, or_true, not_false_eq_true, not_true_eq_false, ↓reduceIte, Option.bind_some, Nat.add_sub_cancel, Nat.add_sub_cancel_left, reduceCtorEq, Option.some.injEq, Prod.mk.injEq, true_and, and_true, decide_true, decide_false, Bool.true_eq_false, Bool.false_eq_true, Bool.not_eq_true, Bool.not_eq_false, h1]); exact rfl)); with_reducible refine bnd rfl ?_)))
            rfl
          · simp only [okt]
            omega
        · refine .inr ?_
          unfold fJ_mayBeMade
          (repeat (first | (with_reducible refine ifn ?_ ?_; (focus (simp (disch := omega) only [jlo, jl0, jl1, jl2, jl3, jl4, jl5, jl9, jl10, jl12, jl16, jl30, jl60, jl63, jl64, jl80, jl100, jl120, jl512, jlM, jlm, j_lt, j_le, j_eq, j_add, j_mul, j_div, j_mod, j_sub, j_m1, j_nelt, j_melt, j_nele, j_mele, j_neeq, j_meeq, j_nat, j_bz0, j_bz1, jc_le0, jc_le1, jc_lt0, jc_lt1, jc_eq0, jc_eq1, Nat.not_lt_zero, Nat.zero_le, ne_eq, false_or, or_false, true_or, or_true, not_false_eq_true, not_true_eq_false, ↓reduceIte, Option.bind_some, Nat.add_sub_cancel, Nat.add_sub_cancel_left, reduceCtorEq, Option.some.injEq, Prod.mk.injEq, true_and, and_true, decide_true, decide_false, Bool.true_eq_false, Bool.false_eq_true, Bool.not_eq_true, Bool.not_eq_false, h1]; done))) | (with_reducible refine ifp ?_ ?_; (focus (simp (disch := omega) only [jlo, jl0, jl1, jl2, jl3, jl4, jl5, jl9, jl10, jl12, jl16, jl30, jl60, jl63, jl64, jl80, jl100, jl120, jl512, jlM, jlm, j_lt, j_le, j_eq, j_add, j_mul, j_div, j_mod, j_sub, j_m1, j_nelt, j_melt, j_nele, j_mele, j_neeq, j_meeq, j_nat, j_bz0, j_bz1, jc_le0, jc_le1, jc_lt0, jc_lt1, jc_eq0, jc_eq1, Nat.not_lt_zero, Nat.zero_le, ne_eq, false_or, or_false, true_or, or_true, not_false_eq_true, not_true_eq_false, ↓reduceIte, Option.bind_some, Nat.add_sub_cancel, Nat.add_sub_cancel_left, reduceCtorEq, Option.some.injEq, Prod.mk.injEq, true_and, and_true, decide_true, decide_false, Bool.true_eq_false, Bool.false_eq_true, Bool.not_eq_true, Bool.not_eq_false, h1]; done))) | (with_reducible apply bnd1; (focus ((try simp (disch := omega) only [jlo, jl0, jl1, jl2, jl3, jl4, jl5, jl9, jl10, jl12, jl16, jl30, jl60, jl63, jl64, jl80, jl100, jl120, jl512, jlM, jlm, j_lt, j_le, j_eq, j_add, j_mul, j_div, j_mod, j_sub, j_m1, j_nelt, j_melt, j_nele, j_mele, j_neeq, j_meeq, j_nat, j_bz0, j_bz1, jc_le0, jc_le1, jc_lt0, jc_lt1, jc_eq0, jc_eq1, Nat.not_lt_zero, Nat.zero_le, ne_eq, false_or, or_false, true_or, or_true, not_false_eq_true, not_true_eq_false, ↓reduceIte, Option.bind_some, Nat.add_sub_cancel, Nat.add_sub_cancel_left, reduceCtorEq, Option.some.injEq, Prod.mk.injEq, true_and, and_true, decide_true, decide_false, Bool.true_eq_false, Bool.false_eq_true, Bool.not_eq_true, Bool.not_eq_false, h1]); exact rfl)); with_reducible refine bnd rfl ?_)))
          rfl
      · by_cases kp : k = 2 ∨ k = 3 ∨ k = 4
        · have hh := cj_parts (k := k) (by omega)
          rw [decide_eq_true (by omega)] at hh
          rcases c_isTerm hN x with ⟨c1, a, ha, rfl⟩ | ⟨c1, -⟩
          · rcases c_isTerm hN y with ⟨c2, b, hb, rfl⟩ | ⟨c2, -⟩
            · obtain ⟨s, hs, hsk, hs60, hsd⟩ := hT a ha
              obtain ⟨t, ht, htk, ht60, htd⟩ := hT b hb
              have hj := c_join hN (rp_ex (dr_ex hN) s hs) (rp_ex (dr_ex hN) t ht) (by omega) (by omega)
              by_cases hfit : 1 + sz s + sz t ≤ 60 ∧ 1 + Nat.max (dp s) (dp t) ≤ 12
              · rw [decide_eq_true hfit] at hj
                refine .inl ⟨?_, .inr ⟨k, a, b, kp, rfl, rfl, rfl, ha, hb, s, t, hs, ht, hsk, htk, hfit.1, hfit.2⟩⟩
                unfold fJ_mayBeMade
                (repeat (first | (with_reducible refine ifn ?_ ?_; (focus (simp (disch := omega) only [jlo, jl0, jl1, jl2, jl3, jl4, jl5, jl9, jl10, jl12, jl16, jl30, jl60, jl63, jl64, jl80, jl100, jl120, jl512, jlM, jlm, j_lt, j_le, j_eq, j_add, j_mul, j_div, j_mod, j_sub, j_m1, j_nelt, j_melt, j_nele, j_mele, j_neeq, j_meeq, j_nat, j_bz0, j_bz1, jc_le0, jc_le1, jc_lt0, jc_lt1, jc_eq0, jc_eq1, Nat.not_lt_zero, Nat.zero_le, ne_eq, false_or, or_false, true_or, or_true, not_false_eq_true, not_true_eq_false, ↓reduceIte, Option.bind_some, Nat.add_sub_cancel, Nat.add_sub_cancel_left, reduceCtorEq, Option.some.injEq, Prod.mk.injEq, true_and, and_true, decide_true, decide_false, Bool.true_eq_false, Bool.false_eq_true, Bool.not_eq_true, Bool.not_eq_false, hh, c1, c2, hj]; done))) | (with_reducible refine ifp ?_ ?_; (focus (simp (disch := omega) only [jlo, jl0, jl1, jl2, jl3, jl4, jl5, jl9, jl10, jl12, jl16, jl30, jl60, jl63, jl64, jl80, jl100, jl120, jl512, jlM, jlm, j_lt, j_le, j_eq, j_add, j_mul, j_div, j_mod, j_sub, j_m1, j_nelt, j_melt, j_nele, j_mele, j_neeq, j_meeq, j_nat, j_bz0, j_bz1, jc_le0, jc_le1, jc_lt0, jc_lt1, jc_eq0, jc_eq1, Nat.not_lt_zero, Nat.zero_le, ne_eq, false_or, or_false, true_or, or_true, not_false_eq_true, not_true_eq_false, ↓reduceIte, Option.bind_some, Nat.add_sub_cancel, Nat.add_sub_cancel_left, reduceCtorEq, Option.some.injEq, Prod.mk.injEq, true_and, and_true, decide_true, decide_false, Bool.true_eq_false, Bool.false_eq_true, Bool.not_eq_true, Bool.not_eq_false, hh, c1, c2, hj]; done))) | (with_reducible apply bnd1; (focus ((try simp (disch := omega) only [jlo, jl0, jl1, jl2, jl3, jl4, jl5, jl9, jl10, jl12, jl16, jl30, jl60, jl63, jl64, jl80, jl100, jl120, jl512, jlM, jlm, j_lt, j_le, j_eq, j_add, j_mul, j_div, j_mod, j_sub, j_m1, j_nelt, j_melt, j_nele, j_mele, j_neeq, j_meeq, j_nat, j_bz0, j_bz1, jc_le0, jc_le1, jc_lt0, jc_lt1, jc_eq0, jc_eq1, Nat.not_lt_zero, Nat.zero_le, ne_eq, false_or, or_false, true_or, or_true, not_false_eq_true, not_true_eq_false, ↓reduceIte, Option.bind_some, Nat.add_sub_cancel, Nat.add_sub_cancel_left, reduceCtorEq, Option.some.injEq, Prod.mk.injEq, true_and, and_true, decide_true, decide_false, Bool.true_eq_false, Bool.false_eq_true, Bool.not_eq_true, Bool.not_eq_false, hh, c1, c2, hj]); exact rfl)); with_reducible refine bnd rfl ?_)))
                rfl
              · rw [decide_eq_false hfit] at hj
                refine .inr ?_
                unfold fJ_mayBeMade
                (repeat (first | (with_reducible refine ifn ?_ ?_; (focus (simp (disch := omega) only [jlo, jl0, jl1, jl2, jl3, jl4, jl5, jl9, jl10, jl12, jl16, jl30, jl60, jl63, jl64, jl80, jl100, jl120, jl512, jlM, jlm, j_lt, j_le, j_eq, j_add, j_mul, j_div, j_mod, j_sub, j_m1, j_nelt, j_melt, j_nele, j_mele, j_neeq, j_meeq, j_nat, j_bz0, j_bz1, jc_le0, jc_le1, jc_lt0, jc_lt1, jc_eq0, jc_eq1, Nat.not_lt_zero, Nat.zero_le, ne_eq, false_or, or_false, true_or, or_true, not_false_eq_true, not_true_eq_false, ↓reduceIte, Option.bind_some, Nat.add_sub_cancel, Nat.add_sub_cancel_left, reduceCtorEq, Option.some.injEq, Prod.mk.injEq, true_and, and_true, decide_true, decide_false, Bool.true_eq_false, Bool.false_eq_true, Bool.not_eq_true, Bool.not_eq_false, hh, c1, c2, hj]; done))) | (with_reducible refine ifp ?_ ?_; (focus (simp (disch := omega) only [jlo, jl0, jl1, jl2, jl3, jl4, jl5, jl9, jl10, jl12, jl16, jl30, jl60, jl63, jl64, jl80, jl100, jl120, jl512, jlM, jlm, j_lt, j_le, j_eq, j_add, j_mul, j_div, j_mod, j_sub, j_m1, j_nelt, j_melt, j_nele, j_mele, j_neeq, j_meeq, j_nat, j_bz0, j_bz1, jc_le0, jc_le1, jc_lt0, jc_lt1, jc_eq0, jc_eq1, Nat.not_lt_zero, Nat.zero_le, ne_eq, false_or, or_false, true_or, or_true, not_false_eq_true, not_true_eq_false, ↓reduceIte, Option.bind_some, Nat.add_sub_cancel, Nat.add_sub_cancel_left, reduceCtorEq, Option.some.injEq, Prod.mk.injEq, true_and, and_true, decide_true, decide_false, Bool.true_eq_false, Bool.false_eq_true, Bool.not_eq_true, Bool.not_eq_false, hh, c1, c2, hj]; done))) | (with_reducible apply bnd1; (focus ((try simp (disch := omega) only [jlo, jl0, jl1, jl2, jl3, jl4, jl5, jl9, jl10, jl12, jl16, jl30, jl60, jl63, jl64, jl80, jl100, jl120, jl512, jlM, jlm, j_lt, j_le, j_eq, j_add, j_mul, j_div, j_mod, j_sub, j_m1, j_nelt, j_melt, j_nele, j_mele, j_neeq, j_meeq, j_nat, j_bz0, j_bz1, jc_le0, jc_le1, jc_lt0, jc_lt1, jc_eq0, jc_eq1, Nat.not_lt_zero, Nat.zero_le, ne_eq, false_or, or_false, true_or, or_true, not_false_eq_true, not_true_eq_false, ↓reduceIte, Option.bind_some, Nat.add_sub_cancel, Nat.add_sub_cancel_left, reduceCtorEq, Option.some.injEq, Prod.mk.injEq, true_and, and_true, decide_true, decide_false, Bool.true_eq_false, Bool.false_eq_true, Bool.not_eq_true, Bool.not_eq_false, hh, c1, c2, hj]); exact rfl)); with_reducible refine bnd rfl ?_)))
                rfl
            · refine .inr ?_
              unfold fJ_mayBeMade
              (repeat (first | (with_reducible refine ifn ?_ ?_; (focus (simp (disch := omega) only [jlo, jl0, jl1, jl2, jl3, jl4, jl5, jl9, jl10, jl12, jl16, jl30, jl60, jl63, jl64, jl80, jl100, jl120, jl512, jlM, jlm, j_lt, j_le, j_eq, j_add, j_mul, j_div, j_mod, j_sub, j_m1, j_nelt, j_melt, j_nele, j_mele, j_neeq, j_meeq, j_nat, j_bz0, j_bz1, jc_le0, jc_le1, jc_lt0, jc_lt1, jc_eq0, jc_eq1, Nat.not_lt_zero, Nat.zero_le, ne_eq, false_or, or_false, true_or, or_true, not_false_eq_true, not_true_eq_false, ↓reduceIte, Option.bind_some, Nat.add_sub_cancel, Nat.add_sub_cancel_left, reduceCtorEq, Option.some.injEq, Prod.mk.injEq, true_and, and_true, decide_true, decide_false, Bool.true_eq_false, Bool.false_eq_true, Bool.not_eq_true, Bool.not_eq_false, hh, c1, c2]; done))) | (with_reducible refine ifp ?_ ?_; (focus (simp (disch := omega) only [jlo, jl0, jl1, jl2, jl3, jl4, jl5, jl9, jl10, jl12, jl16, jl30, jl60, jl63, jl64, jl80, jl100, jl120, jl512, jlM, jlm, j_lt, j_le, j_eq, j_add, j_mul, j_div, j_mod, j_sub, j_m1, j_nelt, j_melt, j_nele, j_mele, j_neeq, j_meeq, j_nat, j_bz0, j_bz1, jc_le0, jc_le1, jc_lt0, jc_lt1, jc_eq0, jc_eq1, Nat.not_lt_zero, Nat.zero_le, ne_eq, false_or, or_false, true_or, or_true, not_false_eq_true, not_true_eq_false, ↓reduceIte, Option.bind_some, Nat.add_sub_cancel, Nat.add_sub_cancel_left, reduceCtorEq, Option.some.injEq, Prod.mk.injEq, true_and, and_true, decide_true, decide_false, Bool.true_eq_false, Bool.false_eq_true, Bool.not_eq_true, Bool.not_eq_false, hh, c1, c2]; done))) | (with_reducible apply bnd1; (focus ((try simp (disch := omega) only [jlo, jl0, jl1, jl2, jl3, jl4, jl5, jl9, jl10, jl12, jl16, jl30, jl60, jl63, jl64, jl80, jl100, jl120, jl512, jlM, jlm, j_lt, j_le, j_eq, j_add, j_mul, j_div, j_mod, j_sub, j_m1, j_nelt, j_melt, j_nele, j_mele, j_neeq, j_meeq, j_nat, j_bz0, j_bz1, jc_le0, jc_le1, jc_lt0, jc_lt1, jc_eq0, jc_eq1, Nat.not_lt_zero, Nat.zero_le, ne_eq, false_or, or_false, true_or, or_true, not_false_eq_true, not_true_eq_false, ↓reduceIte, Option.bind_some, Nat.add_sub_cancel, Nat.add_sub_cancel_left, reduceCtorEq, Option.some.injEq, Prod.mk.injEq, true_and, and_true, decide_true, decide_false, Bool.true_eq_false, Bool.false_eq_true, Bool.not_eq_true, Bool.not_eq_false, hh, c1, c2]); exact rfl)); with_reducible refine bnd rfl ?_)))
              rfl
          · refine .inr ?_
            unfold fJ_mayBeMade
            (repeat (first | (with_reducible refine ifn ?_ ?_; (focus (simp (disch := omega) only [jlo, jl0, jl1, jl2, jl3, jl4, jl5, jl9, jl10, jl12, jl16, jl30, jl60, jl63, jl64, jl80, jl100, jl120, jl512, jlM, jlm, j_lt, j_le, j_eq, j_add, j_mul, j_div, j_mod, j_sub, j_m1, j_nelt, j_melt, j_nele, j_mele, j_neeq, j_meeq, j_nat, j_bz0, j_bz1, jc_le0, jc_le1, jc_lt0, jc_lt1, jc_eq0, jc_eq1, Nat.not_lt_zero, Nat.zero_le, ne_eq, false_or, or_false, true_or, or_true, not_false_eq_true, not_true_eq_false, ↓reduceIte, Option.bind_some, Nat.add_sub_cancel, Nat.add_sub_cancel_left, reduceCtorEq, Option.some.injEq, Prod.mk.injEq, true_and, and_true, decide_true, decide_false, Bool.true_eq_false, Bool.false_eq_true, Bool.not_eq_true, Bool.not_eq_false, hh, c1]; done))) | (with_reducible refine ifp ?_ ?_; (focus (simp (disch := omega) only [jlo, jl0, jl1, jl2, jl3, jl4, jl5, jl9, jl10, jl12, jl16, jl30, jl60, jl63, jl64, jl80, jl100, jl120, jl512, jlM, jlm, j_lt, j_le, j_eq, j_add, j_mul, j_div, j_mod, j_sub, j_m1, j_nelt, j_melt, j_nele, j_mele, j_neeq, j_meeq, j_nat, j_bz0, j_bz1, jc_le0, jc_le1, jc_lt0, jc_lt1, jc_eq0, jc_eq1, Nat.not_lt_zero, Nat.zero_le, ne_eq, false_or, or_false, true_or, or_true, not_false_eq_true, not_true_eq_false, ↓reduceIte, Option.bind_some, Nat.add_sub_cancel, Nat.add_sub_cancel_left, reduceCtorEq, Option.some.injEq, Prod.mk.injEq, true_and, and_true, decide_true, decide_false, Bool.true_eq_false, Bool.false_eq_true, Bool.not_eq_true, Bool.not_eq_false, hh, c1]; done))) | (with_reducible apply bnd1; (focus ((try simp (disch := omega) only [jlo, jl0, jl1, jl2, jl3, jl4, jl5, jl9, jl10, jl12, jl16, jl30, jl60, jl63, jl64, jl80, jl100, jl120, jl512, jlM, jlm, j_lt, j_le, j_eq, j_add, j_mul, j_div, j_mod, j_sub, j_m1, j_nelt, j_melt, j_nele, j_mele, j_neeq, j_meeq, j_nat, j_bz0, j_bz1, jc_le0, jc_le1, jc_lt0, jc_lt1, jc_eq0, jc_eq1, Nat.not_lt_zero, Nat.zero_le, ne_eq, false_or, or_false, true_or, or_true, not_false_eq_true, not_true_eq_false, ↓reduceIte, Option.bind_some, Nat.add_sub_cancel, Nat.add_sub_cancel_left, reduceCtorEq, Option.some.injEq, Prod.mk.injEq, true_and, and_true, decide_true, decide_false, Bool.true_eq_false, Bool.false_eq_true, Bool.not_eq_true, Bool.not_eq_false, hh, c1]); exact rfl)); with_reducible refine bnd rfl ?_)))
            rfl
        · refine .inr ?_
          have hh := nop k (by omega) hk
          unfold fJ_mayBeMade
          (repeat (first | (with_reducible refine ifn ?_ ?_; (focus (simp (disch := omega) only [jlo, jl0, jl1, jl2, jl3, jl4, jl5, jl9, jl10, jl12, jl16, jl30, jl60, jl63, jl64, jl80, jl100, jl120, jl512, jlM, jlm, j_lt, j_le, j_eq, j_add, j_mul, j_div, j_mod, j_sub, j_m1, j_nelt, j_melt, j_nele, j_mele, j_neeq, j_meeq, j_nat, j_bz0, j_bz1, jc_le0, jc_le1, jc_lt0, jc_lt1, jc_eq0, jc_eq1, Nat.not_lt_zero, Nat.zero_le, ne_eq, false_or, or_false, true_or, or_true, not_false_eq_true, not_true_eq_false, ↓reduceIte, Option.bind_some, Nat.add_sub_cancel, Nat.add_sub_cancel_left, reduceCtorEq, Option.some.injEq, Prod.mk.injEq, true_and, and_true, decide_true, decide_false, Bool.true_eq_false, Bool.false_eq_true, Bool.not_eq_true, Bool.not_eq_false, hh]; done))) | (with_reducible refine ifp ?_ ?_; (focus (simp (disch := omega) only [jlo, jl0, jl1, jl2, jl3, jl4, jl5, jl9, jl10, jl12, jl16, jl30, jl60, jl63, jl64, jl80, jl100, jl120, jl512, jlM, jlm, j_lt, j_le, j_eq, j_add, j_mul, j_div, j_mod, j_sub, j_m1, j_nelt, j_melt, j_nele, j_mele, j_neeq, j_meeq, j_nat, j_bz0, j_bz1, jc_le0, jc_le1, jc_lt0, jc_lt1, jc_eq0, jc_eq1, Nat.not_lt_zero, Nat.zero_le, ne_eq, false_or, or_false, true_or, or_true, not_false_eq_true, not_true_eq_false, ↓reduceIte, Option.bind_some, Nat.add_sub_cancel, Nat.add_sub_cancel_left, reduceCtorEq, Option.some.injEq, Prod.mk.injEq, true_and, and_true, decide_true, decide_false, Bool.true_eq_false, Bool.false_eq_true, Bool.not_eq_true, Bool.not_eq_false, hh]; done))) | (with_reducible apply bnd1; (focus ((try simp (disch := omega) only [jlo, jl0, jl1, jl2, jl3, jl4, jl5, jl9, jl10, jl12, jl16, jl30, jl60, jl63, jl64, jl80, jl100, jl120, jl512, jlM, jlm, j_lt, j_le, j_eq, j_add, j_mul, j_div, j_mod, j_sub, j_m1, j_nelt, j_melt, j_nele, j_mele, j_neeq, j_meeq, j_nat, j_bz0, j_bz1, jc_le0, jc_le1, jc_lt0, jc_lt1, jc_eq0, jc_eq1, Nat.not_lt_zero, Nat.zero_le, ne_eq, false_or, or_false, true_or, or_true, not_false_eq_true, not_true_eq_false, ↓reduceIte, Option.bind_some, Nat.add_sub_cancel, Nat.add_sub_cancel_left, reduceCtorEq, Option.some.injEq, Prod.mk.injEq, true_and, and_true, decide_true, decide_false, Bool.true_eq_false, Bool.false_eq_true, Bool.not_eq_true, Bool.not_eq_false, hh]); exact rfl)); with_reducible refine bnd rfl ?_)))
          rfl
theorem k_make (h : Kv q N C ct bo) (p x y : Int32) : ∃ v N', fJ_make N C p x y = some (v, N') ∧ Kv q N' C ct bo ∧ Ky N N' ∧ (v = jng ∨ ∃ i, i < nmt N' ∧ v = jn i) := by
  have h120 : nmt N ≤ 120 := h.1.2.2.2.1
  rcases k_may h p x y with ⟨h1, ⟨m, rfl, rfl, hk⟩ | ⟨k, a, b, hk3, rfl, rfl, rfl, ha, hb, s, r, hs, hr, hsk, hrk, h60, hd⟩⟩ | h1
  · by_cases hm : nmt N < 120
    · obtain ⟨N', g1, g2, g3, g4, -⟩ := k_leaf h hm hk y
      exact ⟨_, N', g1, g2, g3, .inr ⟨nmt N, by omega, rfl⟩⟩
    · have hm10 : m % 10 = 0 ∨ m % 10 = 1 ∨ m % 10 = 5 := by
        simp only [okt] at hk
        omega
      have hh := cj_parts (k := m % 10) (by omega)
      rw [decide_eq_false (by omega)] at hh
      refine ⟨jng, N, ?_, h, ky_refl N, .inl rfl⟩
      unfold fJ_make
      exact bnd h1 (ifp (by decide) (bnd hh (ifp rfl (bnd (c_tfull h.1 (by omega) _ _ _) rfl))))
  · by_cases hm : nmt N < 120
    · obtain ⟨N', g1, g2, g3, g4, -⟩ := k_branch h hm hk3 ha hb hs hr hsk hrk h60 hd
      exact ⟨_, N', g1, g2, g3, .inr ⟨nmt N, by omega, rfl⟩⟩
    · have hh := cj_parts (k := k) (by omega)
      rw [decide_eq_true (by omega)] at hh
      refine ⟨jng, N, ?_, h, ky_refl N, .inl rfl⟩
      unfold fJ_make
      exact bnd h1 (ifp (by decide) (bnd hh (ifn (by decide) (bnd (c_tfull h.1 (by omega) _ _ _) rfl))))
  · refine ⟨jng, N, ?_, h, ky_refl N, .inl rfl⟩
    unfold fJ_make
    exact bnd h1 (ifn (by decide) rfl)
/-- the first node that is so -/
theorem k_find_l (hN : NI N) (p x y : Int32) (g : Nat) : ∀ (j w : Nat), j + g = nmt N →
    (∃ i, i < nmt N ∧ N.1 i = p ∧ N.2.1 i = x ∧ N.2.2.1 i = y ∧ lp_fN_termLike_3 fl (w + g + 1) N p x y (jn j) = some (jn i, N)) ∨
    (∀ v N', fN_addTerm N p x y = some (v, N') → lp_fN_termLike_3 fl (w + g + 1) N p x y (jn j) = some (v, N')) := by
  have h120 : nmt N ≤ 120 := hN.2.2.2.1
  have hN1 : N.2.2.2.2.2.2.1 = jn (nmt N) := hN.1
  induction g with
  | zero =>
    intro j w hj
    right
    simp only [Nat.add_zero] at *
    subst hj
    generalize hmm : nmt N = m at *
    obtain ⟨K, L, R, S, D, cap, mt, le, en⟩ := N
    have hN1 : mt = jn m := hN1
    subst hN1
    intro v N' h
    rw [lp_fN_termLike_3]
    (repeat (first | (with_reducible refine ifn ?_ ?_; (focus (simp (disch := omega) only [jlo, jl0, jl1, jl2, jl3, jl4, jl5, jl9, jl10, jl12, jl16, jl30, jl60, jl63, jl64, jl80, jl100, jl120, jl512, jlM, jlm, j_lt, j_le, j_eq, j_add, j_mul, j_div, j_mod, j_sub, j_m1, j_nelt, j_melt, j_nele, j_mele, j_neeq, j_meeq, j_nat, j_bz0, j_bz1, jc_le0, jc_le1, jc_lt0, jc_lt1, jc_eq0, jc_eq1, Nat.not_lt_zero, Nat.zero_le, ne_eq, false_or, or_false, true_or, or_true, not_false_eq_true, not_true_eq_false, ↓reduceIte, Option.bind_some, Nat.add_sub_cancel, Nat.add_sub_cancel_left, reduceCtorEq, Option.some.injEq, Prod.mk.injEq, true_and, and_true, decide_true, decide_false, Bool.true_eq_false, Bool.false_eq_true, Bool.not_eq_true, Bool.not_eq_false, h]; done))) | (with_reducible refine ifp ?_ ?_; (focus (simp (disch := omega) only [jlo, jl0, jl1, jl2, jl3, jl4, jl5, jl9, jl10, jl12, jl16, jl30, jl60, jl63, jl64, jl80, jl100, jl120, jl512, jlM, jlm, j_lt, j_le, j_eq, j_add, j_mul, j_div, j_mod, j_sub, j_m1, j_nelt, j_melt, j_nele, j_mele, j_neeq, j_meeq, j_nat, j_bz0, j_bz1, jc_le0, jc_le1, jc_lt0, jc_lt1, jc_eq0, jc_eq1, Nat.not_lt_zero, Nat.zero_le, ne_eq, false_or, or_false, true_or, or_true, not_false_eq_true, not_true_eq_false, ↓reduceIte, Option.bind_some, Nat.add_sub_cancel, Nat.add_sub_cancel_left, reduceCtorEq, Option.some.injEq, Prod.mk.injEq, true_and, and_true, decide_true, decide_false, Bool.true_eq_false, Bool.false_eq_true, Bool.not_eq_true, Bool.not_eq_false, h]; done))) | (with_reducible apply bnd1; (focus ((try simp (disch := omega) only [jlo, jl0, jl1, jl2, jl3, jl4, jl5, jl9, jl10, jl12, jl16, jl30, jl60, jl63, jl64, jl80, jl100, jl120, jl512, jlM, jlm, j_lt, j_le, j_eq, j_add, j_mul, j_div, j_mod, j_sub, j_m1, j_nelt, j_melt, j_nele, j_mele, j_neeq, j_meeq, j_nat, j_bz0, j_bz1, jc_le0, jc_le1, jc_lt0, jc_lt1, jc_eq0, jc_eq1, Nat.not_lt_zero, Nat.zero_le, ne_eq, false_or, or_false, true_or, or_true, not_false_eq_true, not_true_eq_false, ↓reduceIte, Option.bind_some, Nat.add_sub_cancel, Nat.add_sub_cancel_left, reduceCtorEq, Option.some.injEq, Prod.mk.injEq, true_and, and_true, decide_true, decide_false, Bool.true_eq_false, Bool.false_eq_true, Bool.not_eq_true, Bool.not_eq_false, h]); exact rfl)); with_reducible refine bnd rfl ?_)))
    rfl
  | succ g ih =>
    intro j w hj
    have hjm : j < nmt N := by omega
    have hv : vd N j := .inl hjm
    have k1 := c_kindraw hN hv
    obtain ⟨k2, k3, -, -⟩ := c_left hN hv
    have h1 := ih (j + 1) w (by omega)
    rw [← j_add] at h1
    have hlt : ¬ jn (nmt N) ≤ jn j := by
      rw [j_le (by omega) (by omega)]
      omega
    have hcl : ∀ r, (if p = N.1 j ∧ x = N.2.1 j ∧ y = N.2.2.1 j then some (jn j, N) = r else lp_fN_termLike_3 fl (w + g + 1) N p x y (jn j + jn 1) = r) → lp_fN_termLike_3 fl (w + (g + 1) + 1) N p x y (jn j) = r := by
      intro r hr
      rw [show w + (g + 1) + 1 = w + g + 1 + 1 by omega, lp_fN_termLike_3]
      generalize hmm : nmt N = m at *
      obtain ⟨K, L, R, S, D, cap, mt, le, en⟩ := N
      have hN1 : mt = jn m := hN1
      subst hN1
      refine ifn hlt (bnd k1 ?_)
      by_cases c1 : p = K j
      · refine ifn (fun h => h c1.symm) (bnd k2 ?_)
        by_cases c2 : x = L j
        · refine ifn (fun h => h c2.symm) (bnd k3 ?_)
          by_cases c3 : y = R j
          · rw [if_pos ⟨c1, c2, c3⟩] at hr
            exact ifn (fun h => h c3.symm) hr
          · rw [if_neg (fun h => c3 h.2.2)] at hr
            exact ifp (fun h => c3 h.symm) hr
        · rw [if_neg (fun h => c2 h.2.1)] at hr
          exact ifp (fun h => c2 h.symm) hr
      · rw [if_neg (fun h => c1 h.1)] at hr
        exact ifp (fun h => c1 h.symm) hr
    by_cases hc : p = N.1 j ∧ x = N.2.1 j ∧ y = N.2.2.1 j
    · exact .inl ⟨j, hjm, hc.1.symm, hc.2.1.symm, hc.2.2.symm, hcl _ (by rw [if_pos hc])⟩
    · rcases h1 with ⟨i, x1, x2, x3, x4, x5⟩ | x1
      · exact .inl ⟨i, x1, x2, x3, x4, hcl _ (by rw [if_neg hc]; exact x5)⟩
      · exact .inr (fun v N' h => hcl _ (by rw [if_neg hc]; exact x1 v N' h))
theorem k_node (h : Kv q N C ct bo) {i : Nat} (hi : i < nmt N) {p x y : Int32} (e1 : N.1 i = p) (e2 : N.2.1 i = x) (e3 : N.2.2.1 i = y) {t : tm} (hg : Nd q N p x y t) (hk : okt 9 q 10 t) (hd : dp t ≤ 12) : Rp (dr N) i t := by
  obtain ⟨hN, -, hT, hC, -⟩ := h
  have hq : q ≤ 16 := hC.2.1
  obtain ⟨t', h1, h3, h4, h5⟩ := hT i hi
  have hw : wft t := okt_wft (by omega) (by omega) t hk (by omega)
  have hw' : wft t' := okt_wft (by omega) (by omega) t' h3 (by omega)
  have : t' = t := by
    rcases hg with ⟨m, rfl, rfl, rfl, rfl⟩ | ⟨k, a, b, l, r, rfl, rfl, rfl, rfl, ha, hb, hl, hr⟩
    · cases t' with
      | leaf m' =>
        have g1 : N.1 i = jn (m' % 10) := h1.2.1
        have g2 : N.2.1 i = jn (m' / 10) := h1.2.2.1
        have hm := hw.1
        have hm' := hw'.1
        rw [e1, j_eq (by omega) (by omega)] at g1
        rw [e2, j_eq (by omega) (by omega)] at g2
        rw [show m' = m by omega]
      | branch k' l' r' =>
        have g1 : N.1 i = jn k' := h1.2.1
        have hm := hw.2
        have hk' := hw'.1
        rw [e1, j_eq (by omega) (by omega)] at g1
        omega
    · cases t' with
      | leaf m' =>
        have g1 : N.1 i = jn (m' % 10) := h1.2.1
        have hm' := hw'.2
        have hk' := hw.1
        rw [e1, j_eq (by omega) (by omega)] at g1
        omega
      | branch k' l' r' =>
        have g1 : N.1 i = jn k' := h1.2.1
        obtain ⟨-, -, -, -, a', b', g2, g3, g4, g5⟩ := h1
        have g2 : N.2.1 i = jn a' := g2
        have g3 : N.2.2.1 i = jn b' := g3
        have ha' := (vd_lt (dr_ni hN) (rp_vd g4)).2
        have hb' := (vd_lt (dr_ni hN) (rp_vd g5)).2
        have hk1 := hw.1
        have hk2 := hw'.1
        rw [e1, j_eq (by omega) (by omega)] at g1
        rw [e2, j_eq (by omega) (by omega)] at g2
        rw [e3, j_eq (by omega) (by omega)] at g3
        subst g1 g2 g3
        rw [rp_inj (dr_ni hN) l hw.2.1 hw'.2.1 hl g4, rp_inj (dr_ni hN) r hw.2.2 hw'.2.2 hr g5]
  subst this
  exact h1
theorem k_find (hfl : 10000 ≤ fl) (h : Kv q N C ct bo) {p x y : Int32} {t : tm} (hnd : Nd q N p x y t) (hg : Kg q N p x y t) :
    (∃ i N', fN_termLike fl N p x y = some (jn i, N') ∧ Kv q N' C ct bo ∧ Ky N N' ∧ i < nmt N' ∧ Rp (dr N') i t) ∨ fN_termLike fl N p x y = some (jng, N) := by
  have hkv := h
  obtain ⟨hN, -, hT, hC, -⟩ := h
  have hq : q ≤ 16 := hC.2.1
  have h120 : nmt N ≤ 120 := hN.2.2.2.1
  have hl := k_find_l (fl := fl) hN p x y (nmt N) 0 (fl - nmt N - 1) (by omega)
  rw [show fl - nmt N - 1 + nmt N + 1 = fl by omega] at hl
  rcases hl with ⟨i, hi, e1, e2, e3, f1⟩ | f1
  · exact .inl ⟨i, N, f1, hkv, ky_refl N, hi, k_node hkv hi e1 e2 e3 hnd hg.1 hg.2.2.1⟩
  · have hy : (∃ m, t = .leaf m ∧ y = jng) ∨ ((∃ k s r, t = .branch k s r) ∧ y = y) := by
      rcases hnd with ⟨m, rfl, rfl, rfl, rfl⟩ | ⟨k, a, b, l, r, rfl, rfl, rfl, rfl, -⟩
      · exact .inl ⟨m, rfl, rfl⟩
      · exact .inr ⟨⟨k, l, r, rfl⟩, rfl⟩
    rcases k_new hkv hg y hy with ⟨-, n1⟩ | ⟨hm, s, d, n1, n2, n3, n4, n5⟩
    · exact .inr (f1 _ _ n1)
    · exact .inl ⟨nmt N, _, f1 _ _ n1, n2, n3, by omega, n5⟩
end K
/-- a term's marks are made -/
theorem k_read_t {fl q : Nat} (hfl : 10000 ≤ fl) {C : cC} {ct : Nat → tm} {bo : Nat → Option tm} {L : Nat} (hL : L ≤ 60) {pr : Nat → Int32} (k m : Nat) (t : tm) : ∀ {N : cN} {d i : Nat}, Kv q N C ct bo → lvs q t → sz t ≤ 60 → dp t ≤ 12 → dp t ≤ d → i + sz t ≤ L → Seg pr i (enc t) →
    (∃ N' p, fM_readNode_P fl d N (pr, jn L, jn i) k m (jn 1) = some (jn p, N', (pr, jn L, jn (i + sz t)), (k, m)) ∧ Kv q N' C ct bo ∧ Ky N N' ∧ p < nmt N' ∧ Rp (dr N') p t) ∨
    (∃ N' x, fM_readNode_P fl d N (pr, jn L, jn i) k m (jn 1) = some (jng, N', (pr, jn L, x), (k, m)) ∧ NI N' ∧ Ky N N') := by
  induction t with
  | leaf x =>
    intro N d i h hg h60 hdp hd hi hs
    have hiv := h
    obtain ⟨hN, -, hT, hC, -⟩ := h
    have hq : q ≤ 16 := hC.2.1
    simp only [sz, dp] at *
    obtain ⟨d, rfl⟩ : ∃ d', d = d' + 1 := ⟨d - 1, by omega⟩
    have hgk : okt 9 q 10 (.leaf x) := hg
    have hw : wft (.leaf x) := okt_wft (by omega) (by omega) _ hgk (by simp only [dp]; omega)
    have hx1 := hw.1
    have hx2 := hw.2
    have ha := c_atP (qr := pr) (qx := jn i) (by omega : i < L) hL
    rw [show pr i = jn x from hs.1] at ha
    have hp := cj_parts (k := x % 10) (by omega)
    rw [decide_eq_false (by omega)] at hp
    have hmm : x - x / 10 * 10 = x % 10 := by omega
    rcases k_find hfl hiv (p := jn (x % 10)) (x := jn (x / 10)) (y := jng) (t := .leaf x) (.inl ⟨x, rfl, rfl, rfl, rfl⟩) ⟨hgk, by simp only [sz]; omega, by simp only [dp]; omega, .inl ⟨x, rfl, rfl, rfl⟩⟩ with ⟨p, N', f1, f3, f4, f5, f6⟩ | f1
    · refine .inl ⟨N', p, ?_, f3, f4, f5, f6⟩
      rw [fM_readNode_P]
      (repeat (first | (with_reducible refine ifn ?_ ?_; (focus (simp (disch := omega) only [jlo, jl0, jl1, jl2, jl3, jl4, jl5, jl9, jl10, jl12, jl16, jl30, jl60, jl63, jl64, jl80, jl100, jl120, jl512, jlM, jlm, j_lt, j_le, j_eq, j_add, j_mul, j_div, j_mod, j_sub, j_m1, j_nelt, j_melt, j_nele, j_mele, j_neeq, j_meeq, j_nat, j_bz0, j_bz1, jc_le0, jc_le1, jc_lt0, jc_lt1, jc_eq0, jc_eq1, Nat.not_lt_zero, Nat.zero_le, ne_eq, false_or, or_false, true_or, or_true, not_false_eq_true, not_true_eq_false, ↓reduceIte, Option.bind_some, Nat.add_sub_cancel, Nat.add_sub_cancel_left, reduceCtorEq, Option.some.injEq, Prod.mk.injEq, true_and, and_true, decide_true, decide_false, Bool.true_eq_false, Bool.false_eq_true, Bool.not_eq_true, Bool.not_eq_false, ha, hmm, hp, f1]; done))) | (with_reducible refine ifp ?_ ?_; (focus (simp (disch := omega) only [jlo, jl0, jl1, jl2, jl3, jl4, jl5, jl9, jl10, jl12, jl16, jl30, jl60, jl63, jl64, jl80, jl100, jl120, jl512, jlM, jlm, j_lt, j_le, j_eq, j_add, j_mul, j_div, j_mod, j_sub, j_m1, j_nelt, j_melt, j_nele, j_mele, j_neeq, j_meeq, j_nat, j_bz0, j_bz1, jc_le0, jc_le1, jc_lt0, jc_lt1, jc_eq0, jc_eq1, Nat.not_lt_zero, Nat.zero_le, ne_eq, false_or, or_false, true_or, or_true, not_false_eq_true, not_true_eq_false, ↓reduceIte, Option.bind_some, Nat.add_sub_cancel, Nat.add_sub_cancel_left, reduceCtorEq, Option.some.injEq, Prod.mk.injEq, true_and, and_true, decide_true, decide_false, Bool.true_eq_false, Bool.false_eq_true, Bool.not_eq_true, Bool.not_eq_false, ha, hmm, hp, f1]; done))) | (with_reducible apply bnd1; (focus ((try simp (disch := omega) only [jlo, jl0, jl1, jl2, jl3, jl4, jl5, jl9, jl10, jl12, jl16, jl30, jl60, jl63, jl64, jl80, jl100, jl120, jl512, jlM, jlm, j_lt, j_le, j_eq, j_add, j_mul, j_div, j_mod, j_sub, j_m1, j_nelt, j_melt, j_nele, j_mele, j_neeq, j_meeq, j_nat, j_bz0, j_bz1, jc_le0, jc_le1, jc_lt0, jc_lt1, jc_eq0, jc_eq1, Nat.not_lt_zero, Nat.zero_le, ne_eq, false_or, or_false, true_or, or_true, not_false_eq_true, not_true_eq_false, ↓reduceIte, Option.bind_some, Nat.add_sub_cancel, Nat.add_sub_cancel_left, reduceCtorEq, Option.some.injEq, Prod.mk.injEq, true_and, and_true, decide_true, decide_false, Bool.true_eq_false, Bool.false_eq_true, Bool.not_eq_true, Bool.not_eq_false, ha, hmm, hp, f1]); exact rfl)); with_reducible refine bnd rfl ?_)))
      simp (disch := omega) only [jlo, jl0, jl1, jl2, jl3, jl4, jl5, jl9, jl10, jl12, jl16, jl30, jl60, jl63, jl64, jl80, jl100, jl120, jl512, jlM, jlm, j_lt, j_le, j_eq, j_add, j_mul, j_div, j_mod, j_sub, j_m1, j_nelt, j_melt, j_nele, j_mele, j_neeq, j_meeq, j_nat, j_bz0, j_bz1, jc_le0, jc_le1, jc_lt0, jc_lt1, jc_eq0, jc_eq1, Nat.not_lt_zero, Nat.zero_le, ne_eq, false_or, or_false, true_or, or_true, not_false_eq_true, not_true_eq_false, ↓reduceIte, Option.bind_some, Nat.add_sub_cancel, Nat.add_sub_cancel_left, reduceCtorEq, Option.some.injEq, Prod.mk.injEq, true_and, and_true, decide_true, decide_false, Bool.true_eq_false, Bool.false_eq_true, Bool.not_eq_true, Bool.not_eq_false]
    · refine .inr ⟨N, jn (i + 1), ?_, hN, ky_refl N⟩
      rw [fM_readNode_P]
      (repeat (first | (with_reducible refine ifn ?_ ?_; (focus (simp (disch := omega) only [jlo, jl0, jl1, jl2, jl3, jl4, jl5, jl9, jl10, jl12, jl16, jl30, jl60, jl63, jl64, jl80, jl100, jl120, jl512, jlM, jlm, j_lt, j_le, j_eq, j_add, j_mul, j_div, j_mod, j_sub, j_m1, j_nelt, j_melt, j_nele, j_mele, j_neeq, j_meeq, j_nat, j_bz0, j_bz1, jc_le0, jc_le1, jc_lt0, jc_lt1, jc_eq0, jc_eq1, Nat.not_lt_zero, Nat.zero_le, ne_eq, false_or, or_false, true_or, or_true, not_false_eq_true, not_true_eq_false, ↓reduceIte, Option.bind_some, Nat.add_sub_cancel, Nat.add_sub_cancel_left, reduceCtorEq, Option.some.injEq, Prod.mk.injEq, true_and, and_true, decide_true, decide_false, Bool.true_eq_false, Bool.false_eq_true, Bool.not_eq_true, Bool.not_eq_false, ha, hmm, hp, f1]; done))) | (with_reducible refine ifp ?_ ?_; (focus (simp (disch := omega) only [jlo, jl0, jl1, jl2, jl3, jl4, jl5, jl9, jl10, jl12, jl16, jl30, jl60, jl63, jl64, jl80, jl100, jl120, jl512, jlM, jlm, j_lt, j_le, j_eq, j_add, j_mul, j_div, j_mod, j_sub, j_m1, j_nelt, j_melt, j_nele, j_mele, j_neeq, j_meeq, j_nat, j_bz0, j_bz1, jc_le0, jc_le1, jc_lt0, jc_lt1, jc_eq0, jc_eq1, Nat.not_lt_zero, Nat.zero_le, ne_eq, false_or, or_false, true_or, or_true, not_false_eq_true, not_true_eq_false, ↓reduceIte, Option.bind_some, Nat.add_sub_cancel, Nat.add_sub_cancel_left, reduceCtorEq, Option.some.injEq, Prod.mk.injEq, true_and, and_true, decide_true, decide_false, Bool.true_eq_false, Bool.false_eq_true, Bool.not_eq_true, Bool.not_eq_false, ha, hmm, hp, f1]; done))) | (with_reducible apply bnd1; (focus ((try simp (disch := omega) only [jlo, jl0, jl1, jl2, jl3, jl4, jl5, jl9, jl10, jl12, jl16, jl30, jl60, jl63, jl64, jl80, jl100, jl120, jl512, jlM, jlm, j_lt, j_le, j_eq, j_add, j_mul, j_div, j_mod, j_sub, j_m1, j_nelt, j_melt, j_nele, j_mele, j_neeq, j_meeq, j_nat, j_bz0, j_bz1, jc_le0, jc_le1, jc_lt0, jc_lt1, jc_eq0, jc_eq1, Nat.not_lt_zero, Nat.zero_le, ne_eq, false_or, or_false, true_or, or_true, not_false_eq_true, not_true_eq_false, ↓reduceIte, Option.bind_some, Nat.add_sub_cancel, Nat.add_sub_cancel_left, reduceCtorEq, Option.some.injEq, Prod.mk.injEq, true_and, and_true, decide_true, decide_false, Bool.true_eq_false, Bool.false_eq_true, Bool.not_eq_true, Bool.not_eq_false, ha, hmm, hp, f1]); exact rfl)); with_reducible refine bnd rfl ?_)))
      simp (disch := omega) only [jlo, jl0, jl1, jl2, jl3, jl4, jl5, jl9, jl10, jl12, jl16, jl30, jl60, jl63, jl64, jl80, jl100, jl120, jl512, jlM, jlm, j_lt, j_le, j_eq, j_add, j_mul, j_div, j_mod, j_sub, j_m1, j_nelt, j_melt, j_nele, j_mele, j_neeq, j_meeq, j_nat, j_bz0, j_bz1, jc_le0, jc_le1, jc_lt0, jc_lt1, jc_eq0, jc_eq1, Nat.not_lt_zero, Nat.zero_le, ne_eq, false_or, or_false, true_or, or_true, not_false_eq_true, not_true_eq_false, ↓reduceIte, Option.bind_some, Nat.add_sub_cancel, Nat.add_sub_cancel_left, reduceCtorEq, Option.some.injEq, Prod.mk.injEq, true_and, and_true, decide_true, decide_false, Bool.true_eq_false, Bool.false_eq_true, Bool.not_eq_true, Bool.not_eq_false]
  | branch kd l r hl hr =>
    intro N d i h hg h60 hdp hd hi hs
    have hiv := h
    obtain ⟨hN, -, hT, hC, -⟩ := h
    have hq : q ≤ 16 := hC.2.1
    have hgk := lvs_okt _ hg
    have hw : wft (.branch kd l r) := okt_wft (by omega) (by omega) _ hgk (by omega)
    have hs := seg_t.mp hs
    simp only [sz, dp] at *
    obtain ⟨d, rfl⟩ : ∃ d', d = d' + 1 := ⟨d - 1, by omega⟩
    have d1 : dp l ≤ Nat.max (dp l) (dp r) := Nat.le_max_left _ _
    have d2 : dp r ≤ Nat.max (dp l) (dp r) := Nat.le_max_right _ _
    have hkk := hw.1
    have pl := sz_pos l
    have pr' := sz_pos r
    have ha := c_atP (qr := pr) (qx := jn i) (by omega : i < L) hL
    rw [hs.1] at ha
    have hp := cj_parts (k := kd) (by omega)
    rw [decide_eq_true (by omega)] at hp
    have hmm : kd - kd / 10 * 10 = kd := by omega
    rcases hl (d := d) (i := i + 1) hiv hg.2.1 (by omega) (by omega) (by omega) (by omega) hs.2.1 with ⟨N1, p1, e1, iv1, nx1, hp1, rp1⟩ | ⟨N1, x1, e1, hN1, nx1⟩
    · have h120 : nmt N1 ≤ 120 := iv1.1.2.2.2.1
      rcases hr (d := d) (i := i + 1 + sz l) iv1 hg.2.2 (by omega) (by omega) (by omega) (by omega) hs.2.2 with ⟨N2, p2, e2, iv2, nx2, hp2, rp2⟩ | ⟨N2, x2, e2, hN2, nx2⟩
      · have h1202 : nmt N2 ≤ 120 := iv2.1.2.2.2.1
        have h12 : nmt N1 ≤ nmt N2 := nx2.1
        have rp1' := rp_gx nx2.2.1 l rp1
        rcases k_find hfl iv2 (p := jn kd) (x := jn p1) (y := jn p2) (t := .branch kd l r) (.inr ⟨kd, p1, p2, l, r, rfl, rfl, rfl, rfl, by omega, by omega, rp1', rp2⟩) ⟨hgk, h60, hdp, .inr ⟨kd, p1, p2, l, r, rfl, rfl, rfl, rfl, by omega, hp2, rp1', rp2⟩⟩ with ⟨p3, N3, f1, iv3, nx3, hp3, rp3⟩ | f1
        · refine .inl ⟨N3, p3, ?_, iv3, ky_trans (ky_trans nx1 nx2) nx3, hp3, rp3⟩
          rw [fM_readNode_P]
          (repeat (first | (with_reducible refine ifn ?_ ?_; (focus (simp (disch := omega) only [jlo, jl0, jl1, jl2, jl3, jl4, jl5, jl9, jl10, jl12, jl16, jl30, jl60, jl63, jl64, jl80, jl100, jl120, jl512, jlM, jlm, j_lt, j_le, j_eq, j_add, j_mul, j_div, j_mod, j_sub, j_m1, j_nelt, j_melt, j_nele, j_mele, j_neeq, j_meeq, j_nat, j_bz0, j_bz1, jc_le0, jc_le1, jc_lt0, jc_lt1, jc_eq0, jc_eq1, Nat.not_lt_zero, Nat.zero_le, ne_eq, false_or, or_false, true_or, or_true, not_false_eq_true, not_true_eq_false, ↓reduceIte, Option.bind_some, Nat.add_sub_cancel, Nat.add_sub_cancel_left, reduceCtorEq, Option.some.injEq, Prod.mk.injEq, true_and, and_true, decide_true, decide_false, Bool.true_eq_false, Bool.false_eq_true, Bool.not_eq_true, Bool.not_eq_false, ha, hmm, hp, e1, e2, f1]; done))) | (with_reducible refine ifp ?_ ?_; (focus (simp (disch := omega) only [jlo, jl0, jl1, jl2, jl3, jl4, jl5, jl9, jl10, jl12, jl16, jl30, jl60, jl63, jl64, jl80, jl100, jl120, jl512, jlM, jlm, j_lt, j_le, j_eq, j_add, j_mul, j_div, j_mod, j_sub, j_m1, j_nelt, j_melt, j_nele, j_mele, j_neeq, j_meeq, j_nat, j_bz0, j_bz1, jc_le0, jc_le1, jc_lt0, jc_lt1, jc_eq0, jc_eq1, Nat.not_lt_zero, Nat.zero_le, ne_eq, false_or, or_false, true_or, or_true, not_false_eq_true, not_true_eq_false, ↓reduceIte, Option.bind_some, Nat.add_sub_cancel, Nat.add_sub_cancel_left, reduceCtorEq, Option.some.injEq, Prod.mk.injEq, true_and, and_true, decide_true, decide_false, Bool.true_eq_false, Bool.false_eq_true, Bool.not_eq_true, Bool.not_eq_false, ha, hmm, hp, e1, e2, f1]; done))) | (with_reducible apply bnd1; (focus ((try simp (disch := omega) only [jlo, jl0, jl1, jl2, jl3, jl4, jl5, jl9, jl10, jl12, jl16, jl30, jl60, jl63, jl64, jl80, jl100, jl120, jl512, jlM, jlm, j_lt, j_le, j_eq, j_add, j_mul, j_div, j_mod, j_sub, j_m1, j_nelt, j_melt, j_nele, j_mele, j_neeq, j_meeq, j_nat, j_bz0, j_bz1, jc_le0, jc_le1, jc_lt0, jc_lt1, jc_eq0, jc_eq1, Nat.not_lt_zero, Nat.zero_le, ne_eq, false_or, or_false, true_or, or_true, not_false_eq_true, not_true_eq_false, ↓reduceIte, Option.bind_some, Nat.add_sub_cancel, Nat.add_sub_cancel_left, reduceCtorEq, Option.some.injEq, Prod.mk.injEq, true_and, and_true, decide_true, decide_false, Bool.true_eq_false, Bool.false_eq_true, Bool.not_eq_true, Bool.not_eq_false, ha, hmm, hp, e1, e2, f1]); exact rfl)); with_reducible refine bnd rfl ?_)))
          rw [show i + 1 + sz l + sz r = i + (1 + sz l + sz r) by omega]
        · refine .inr ⟨N2, jn (i + 1 + sz l + sz r), ?_, iv2.1, ky_trans nx1 nx2⟩
          rw [fM_readNode_P]
          (repeat (first | (with_reducible refine ifn ?_ ?_; (focus (simp (disch := omega) only [jlo, jl0, jl1, jl2, jl3, jl4, jl5, jl9, jl10, jl12, jl16, jl30, jl60, jl63, jl64, jl80, jl100, jl120, jl512, jlM, jlm, j_lt, j_le, j_eq, j_add, j_mul, j_div, j_mod, j_sub, j_m1, j_nelt, j_melt, j_nele, j_mele, j_neeq, j_meeq, j_nat, j_bz0, j_bz1, jc_le0, jc_le1, jc_lt0, jc_lt1, jc_eq0, jc_eq1, Nat.not_lt_zero, Nat.zero_le, ne_eq, false_or, or_false, true_or, or_true, not_false_eq_true, not_true_eq_false, ↓reduceIte, Option.bind_some, Nat.add_sub_cancel, Nat.add_sub_cancel_left, reduceCtorEq, Option.some.injEq, Prod.mk.injEq, true_and, and_true, decide_true, decide_false, Bool.true_eq_false, Bool.false_eq_true, Bool.not_eq_true, Bool.not_eq_false, ha, hmm, hp, e1, e2, f1]; done))) | (with_reducible refine ifp ?_ ?_; (focus (simp (disch := omega) only [jlo, jl0, jl1, jl2, jl3, jl4, jl5, jl9, jl10, jl12, jl16, jl30, jl60, jl63, jl64, jl80, jl100, jl120, jl512, jlM, jlm, j_lt, j_le, j_eq, j_add, j_mul, j_div, j_mod, j_sub, j_m1, j_nelt, j_melt, j_nele, j_mele, j_neeq, j_meeq, j_nat, j_bz0, j_bz1, jc_le0, jc_le1, jc_lt0, jc_lt1, jc_eq0, jc_eq1, Nat.not_lt_zero, Nat.zero_le, ne_eq, false_or, or_false, true_or, or_true, not_false_eq_true, not_true_eq_false, ↓reduceIte, Option.bind_some, Nat.add_sub_cancel, Nat.add_sub_cancel_left, reduceCtorEq, Option.some.injEq, Prod.mk.injEq, true_and, and_true, decide_true, decide_false, Bool.true_eq_false, Bool.false_eq_true, Bool.not_eq_true, Bool.not_eq_false, ha, hmm, hp, e1, e2, f1]; done))) | (with_reducible apply bnd1; (focus ((try simp (disch := omega) only [jlo, jl0, jl1, jl2, jl3, jl4, jl5, jl9, jl10, jl12, jl16, jl30, jl60, jl63, jl64, jl80, jl100, jl120, jl512, jlM, jlm, j_lt, j_le, j_eq, j_add, j_mul, j_div, j_mod, j_sub, j_m1, j_nelt, j_melt, j_nele, j_mele, j_neeq, j_meeq, j_nat, j_bz0, j_bz1, jc_le0, jc_le1, jc_lt0, jc_lt1, jc_eq0, jc_eq1, Nat.not_lt_zero, Nat.zero_le, ne_eq, false_or, or_false, true_or, or_true, not_false_eq_true, not_true_eq_false, ↓reduceIte, Option.bind_some, Nat.add_sub_cancel, Nat.add_sub_cancel_left, reduceCtorEq, Option.some.injEq, Prod.mk.injEq, true_and, and_true, decide_true, decide_false, Bool.true_eq_false, Bool.false_eq_true, Bool.not_eq_true, Bool.not_eq_false, ha, hmm, hp, e1, e2, f1]); exact rfl)); with_reducible refine bnd rfl ?_)))
          rfl
      · refine .inr ⟨N2, x2, ?_, hN2, ky_trans nx1 nx2⟩
        rw [fM_readNode_P]
        (repeat (first | (with_reducible refine ifn ?_ ?_; (focus (simp (disch := omega) only [jlo, jl0, jl1, jl2, jl3, jl4, jl5, jl9, jl10, jl12, jl16, jl30, jl60, jl63, jl64, jl80, jl100, jl120, jl512, jlM, jlm, j_lt, j_le, j_eq, j_add, j_mul, j_div, j_mod, j_sub, j_m1, j_nelt, j_melt, j_nele, j_mele, j_neeq, j_meeq, j_nat, j_bz0, j_bz1, jc_le0, jc_le1, jc_lt0, jc_lt1, jc_eq0, jc_eq1, Nat.not_lt_zero, Nat.zero_le, ne_eq, false_or, or_false, true_or, or_true, not_false_eq_true, not_true_eq_false, ↓reduceIte, Option.bind_some, Nat.add_sub_cancel, Nat.add_sub_cancel_left, reduceCtorEq, Option.some.injEq, Prod.mk.injEq, true_and, and_true, decide_true, decide_false, Bool.true_eq_false, Bool.false_eq_true, Bool.not_eq_true, Bool.not_eq_false, ha, hmm, hp, e1, e2]; done))) | (with_reducible refine ifp ?_ ?_; (focus (simp (disch := omega) only [jlo, jl0, jl1, jl2, jl3, jl4, jl5, jl9, jl10, jl12, jl16, jl30, jl60, jl63, jl64, jl80, jl100, jl120, jl512, jlM, jlm, j_lt, j_le, j_eq, j_add, j_mul, j_div, j_mod, j_sub, j_m1, j_nelt, j_melt, j_nele, j_mele, j_neeq, j_meeq, j_nat, j_bz0, j_bz1, jc_le0, jc_le1, jc_lt0, jc_lt1, jc_eq0, jc_eq1, Nat.not_lt_zero, Nat.zero_le, ne_eq, false_or, or_false, true_or, or_true, not_false_eq_true, not_true_eq_false, ↓reduceIte, Option.bind_some, Nat.add_sub_cancel, Nat.add_sub_cancel_left, reduceCtorEq, Option.some.injEq, Prod.mk.injEq, true_and, and_true, decide_true, decide_false, Bool.true_eq_false, Bool.false_eq_true, Bool.not_eq_true, Bool.not_eq_false, ha, hmm, hp, e1, e2]; done))) | (with_reducible apply bnd1; (focus ((try simp (disch := omega) only [jlo, jl0, jl1, jl2, jl3, jl4, jl5, jl9, jl10, jl12, jl16, jl30, jl60, jl63, jl64, jl80, jl100, jl120, jl512, jlM, jlm, j_lt, j_le, j_eq, j_add, j_mul, j_div, j_mod, j_sub, j_m1, j_nelt, j_melt, j_nele, j_mele, j_neeq, j_meeq, j_nat, j_bz0, j_bz1, jc_le0, jc_le1, jc_lt0, jc_lt1, jc_eq0, jc_eq1, Nat.not_lt_zero, Nat.zero_le, ne_eq, false_or, or_false, true_or, or_true, not_false_eq_true, not_true_eq_false, ↓reduceIte, Option.bind_some, Nat.add_sub_cancel, Nat.add_sub_cancel_left, reduceCtorEq, Option.some.injEq, Prod.mk.injEq, true_and, and_true, decide_true, decide_false, Bool.true_eq_false, Bool.false_eq_true, Bool.not_eq_true, Bool.not_eq_false, ha, hmm, hp, e1, e2]); exact rfl)); with_reducible refine bnd rfl ?_)))
        rfl
    · refine .inr ⟨N1, x1, ?_, hN1, nx1⟩
      rw [fM_readNode_P]
      (repeat (first | (with_reducible refine ifn ?_ ?_; (focus (simp (disch := omega) only [jlo, jl0, jl1, jl2, jl3, jl4, jl5, jl9, jl10, jl12, jl16, jl30, jl60, jl63, jl64, jl80, jl100, jl120, jl512, jlM, jlm, j_lt, j_le, j_eq, j_add, j_mul, j_div, j_mod, j_sub, j_m1, j_nelt, j_melt, j_nele, j_mele, j_neeq, j_meeq, j_nat, j_bz0, j_bz1, jc_le0, jc_le1, jc_lt0, jc_lt1, jc_eq0, jc_eq1, Nat.not_lt_zero, Nat.zero_le, ne_eq, false_or, or_false, true_or, or_true, not_false_eq_true, not_true_eq_false, ↓reduceIte, Option.bind_some, Nat.add_sub_cancel, Nat.add_sub_cancel_left, reduceCtorEq, Option.some.injEq, Prod.mk.injEq, true_and, and_true, decide_true, decide_false, Bool.true_eq_false, Bool.false_eq_true, Bool.not_eq_true, Bool.not_eq_false, ha, hmm, hp, e1]; done))) | (with_reducible refine ifp ?_ ?_; (focus (simp (disch := omega) only [jlo, jl0, jl1, jl2, jl3, jl4, jl5, jl9, jl10, jl12, jl16, jl30, jl60, jl63, jl64, jl80, jl100, jl120, jl512, jlM, jlm, j_lt, j_le, j_eq, j_add, j_mul, j_div, j_mod, j_sub, j_m1, j_nelt, j_melt, j_nele, j_mele, j_neeq, j_meeq, j_nat, j_bz0, j_bz1, jc_le0, jc_le1, jc_lt0, jc_lt1, jc_eq0, jc_eq1, Nat.not_lt_zero, Nat.zero_le, ne_eq, false_or, or_false, true_or, or_true, not_false_eq_true, not_true_eq_false, ↓reduceIte, Option.bind_some, Nat.add_sub_cancel, Nat.add_sub_cancel_left, reduceCtorEq, Option.some.injEq, Prod.mk.injEq, true_and, and_true, decide_true, decide_false, Bool.true_eq_false, Bool.false_eq_true, Bool.not_eq_true, Bool.not_eq_false, ha, hmm, hp, e1]; done))) | (with_reducible apply bnd1; (focus ((try simp (disch := omega) only [jlo, jl0, jl1, jl2, jl3, jl4, jl5, jl9, jl10, jl12, jl16, jl30, jl60, jl63, jl64, jl80, jl100, jl120, jl512, jlM, jlm, j_lt, j_le, j_eq, j_add, j_mul, j_div, j_mod, j_sub, j_m1, j_nelt, j_melt, j_nele, j_mele, j_neeq, j_meeq, j_nat, j_bz0, j_bz1, jc_le0, jc_le1, jc_lt0, jc_lt1, jc_eq0, jc_eq1, Nat.not_lt_zero, Nat.zero_le, ne_eq, false_or, or_false, true_or, or_true, not_false_eq_true, not_true_eq_false, ↓reduceIte, Option.bind_some, Nat.add_sub_cancel, Nat.add_sub_cancel_left, reduceCtorEq, Option.some.injEq, Prod.mk.injEq, true_and, and_true, decide_true, decide_false, Bool.true_eq_false, Bool.false_eq_true, Bool.not_eq_true, Bool.not_eq_false, ha, hmm, hp, e1]); exact rfl)); with_reducible refine bnd rfl ?_)))
      rfl
theorem k_cut {q : Nat} {N N' : cN} {C : cC} {ct : Nat → tm} {bo : Nat → Option tm} (h : Kv q N C ct bo) (hN' : NI N') (hy : Ky N N') : Kv q (cutN N' (nmt N)) C ct bo ∧ Ky N (cutN N' (nmt N)) := by
  obtain ⟨h1, h2, h3, h4, h5⟩ := h
  obtain ⟨c1, c2, c3⟩ := cut_ni h1 hN' hy.2.2.1
  have hm : nmt N ≤ 120 := h1.2.2.2.1
  have hgx : Gx (dr N) (dr (cutN N' (nmt N))) := by
    intro p hp
    obtain ⟨-, a⟩ := hy.2.1 p hp
    refine ⟨?_, a⟩
    have e2 : nmt (dr (cutN N' (nmt N))) = nmt (dr N) := c2
    have e3 : nen (dr (cutN N' (nmt N))) = nen (dr N) := by
      show (N'.2.2.2.2.2.2.2.1).toNatClampNeg = N.2.2.2.2.2.2.2.1.toNatClampNeg
      rw [hy.2.2.1]
    unfold vd at hp ⊢
    omega
  refine ⟨⟨c1, by omega, fun p hp => ?_, ci_gx hgx h4, h5⟩, ⟨by omega, hgx, hy.2.2.1, hy.2.2.2⟩⟩
  obtain ⟨t, g1, g2⟩ := h3 p (by omega)
  exact ⟨t, rp_gx hgx t g1, g2⟩
theorem k_keep {fl d q : Nat} (hfl : 10000 ≤ fl) (hd : 100 ≤ d) {N : cN} {C : cC} {P : cP} {ct : Nat → tm} {bo : Nat → Option tm} {t : tm} (h : Kv q N C ct bo) (hP : Kr q P t) (k n : Nat) :
    ∃ v N' P', fJ_keep fl d N P k n = some (v, N', P', (k, n)) ∧ Kv q N' C ct bo ∧ Ky N N' ∧ (v = jng ∨ ∃ i, v = jn i ∧ i < nmt N' ∧ Rp (dr N') i t ∧ okt 9 q 10 t ∧ sz t ≤ 60 ∧ dp t ≤ 12 ∧ tg 1 (enc t) = false) := by
  have hiv := h
  obtain ⟨hN, -, hT, hC, -⟩ := h
  have hq : q ≤ 16 := hC.2.1
  have h120 : nmt N ≤ 120 := hN.2.2.2.1
  obtain ⟨pr, pl, px⟩ := P
  obtain ⟨hk, h60, hdp, h2, h3⟩ := hP
  have h2 : pl = jn (sz t) := h2
  subst h2
  have hsz := sz_pos t
  have hw := wf9 hq hk (by omega) hdp
  have hlt := enc_lt t hw
  have hemp : fM_isEmpty_P (pr, jn (sz t), px) = some false := by
    unfold fM_isEmpty_P
    (repeat (first | (with_reducible refine ifn ?_ ?_; (focus (simp (disch := omega) only [jlo, jl0, jl1, jl2, jl3, jl4, jl5, jl9, jl10, jl12, jl16, jl30, jl60, jl63, jl64, jl80, jl100, jl120, jl512, jlM, jlm, j_lt, j_le, j_eq, j_add, j_mul, j_div, j_mod, j_sub, j_m1, j_nelt, j_melt, j_nele, j_mele, j_neeq, j_meeq, j_nat, j_bz0, j_bz1, jc_le0, jc_le1, jc_lt0, jc_lt1, jc_eq0, jc_eq1, Nat.not_lt_zero, Nat.zero_le, ne_eq, false_or, or_false, true_or, or_true, not_false_eq_true, not_true_eq_false, ↓reduceIte, Option.bind_some, Nat.add_sub_cancel, Nat.add_sub_cancel_left, reduceCtorEq, Option.some.injEq, Prod.mk.injEq, true_and, and_true, decide_true, decide_false, Bool.true_eq_false, Bool.false_eq_true, Bool.not_eq_true, Bool.not_eq_false]; done))) | (with_reducible refine ifp ?_ ?_; (focus (simp (disch := omega) only [jlo, jl0, jl1, jl2, jl3, jl4, jl5, jl9, jl10, jl12, jl16, jl30, jl60, jl63, jl64, jl80, jl100, jl120, jl512, jlM, jlm, j_lt, j_le, j_eq, j_add, j_mul, j_div, j_mod, j_sub, j_m1, j_nelt, j_melt, j_nele, j_mele, j_neeq, j_meeq, j_nat, j_bz0, j_bz1, jc_le0, jc_le1, jc_lt0, jc_lt1, jc_eq0, jc_eq1, Nat.not_lt_zero, Nat.zero_le, ne_eq, false_or, or_false, true_or, or_true, not_false_eq_true, not_true_eq_false, ↓reduceIte, Option.bind_some, Nat.add_sub_cancel, Nat.add_sub_cancel_left, reduceCtorEq, Option.some.injEq, Prod.mk.injEq, true_and, and_true, decide_true, decide_false, Bool.true_eq_false, Bool.false_eq_true, Bool.not_eq_true, Bool.not_eq_false]; done))) | (with_reducible apply bnd1; (focus ((try simp (disch := omega) only [jlo, jl0, jl1, jl2, jl3, jl4, jl5, jl9, jl10, jl12, jl16, jl30, jl60, jl63, jl64, jl80, jl100, jl120, jl512, jlM, jlm, j_lt, j_le, j_eq, j_add, j_mul, j_div, j_mod, j_sub, j_m1, j_nelt, j_melt, j_nele, j_mele, j_neeq, j_meeq, j_nat, j_bz0, j_bz1, jc_le0, jc_le1, jc_lt0, jc_lt1, jc_eq0, jc_eq1, Nat.not_lt_zero, Nat.zero_le, ne_eq, false_or, or_false, true_or, or_true, not_false_eq_true, not_true_eq_false, ↓reduceIte, Option.bind_some, Nat.add_sub_cancel, Nat.add_sub_cancel_left, reduceCtorEq, Option.some.injEq, Prod.mk.injEq, true_and, and_true, decide_true, decide_false, Bool.true_eq_false, Bool.false_eq_true, Bool.not_eq_true, Bool.not_eq_false]); exact rfl)); with_reducible refine bnd rfl ?_)))
    rfl
  have htg : ∀ kk, kk < 10 → fM_hasTooGreat_P fl (pr, jn (sz t), px) (jn kk) = some (tg kk (enc t)) := by
    intro kk hkk
    have := c_tgP (fl := fl) hkk h60 (qx := px) (enc t) (qr := pr) (i := 0) hlt (by rw [enc_len]; omega) h3 (fl - sz t - 1)
    rw [enc_len, show fl - sz t - 1 + sz t + 1 = fl by omega] at this
    exact this
  have htc : fN_termCount N = some (jn (nmt N)) := by
    have h1 : N.2.2.2.2.2.2.1 = jn (nmt N) := hN.1
    rw [← h1]
    rfl
  have hlv := lvs_tg t hk
  have ht1 := htg 1 (by omega)
  have ht0 := htg 0 (by omega)
  by_cases g1 : tg 1 (enc t) = true
  · rw [g1] at ht1
    refine ⟨jng, N, (pr, jn (sz t), px), ?_, hiv, ky_refl N, .inl rfl⟩
    unfold fJ_keep
    exact bnd hemp (ifn (by decide) (bnd ht1 (ifp (by decide) rfl)))
  · have g1 := Bool.eq_false_iff.mpr g1
    rw [g1] at ht1
    by_cases g0 : tg 0 (enc t) = true
    · rw [g0] at ht0
      refine ⟨jng, N, (pr, jn (sz t), px), ?_, hiv, ky_refl N, .inl rfl⟩
      unfold fJ_keep
      exact bnd hemp (ifn (by decide) (bnd ht1 (ifn (by decide) (bnd ht0 (ifn (by decide) rfl)))))
    · have g0 := Bool.eq_false_iff.mpr g0
      rw [g0] at ht0
      have lv := hlv.mpr ⟨g1, g0⟩
      rcases k_read_t hfl h60 (pr := pr) k n t (d := d) (i := 0) hiv lv h60 hdp (by omega) (by omega) h3 with ⟨N', p, e1, iv', nx, hp, rp⟩ | ⟨N', x, e1, hN', nx⟩
      · have hp120 : nmt N' ≤ 120 := iv'.1.2.2.2.1
        refine ⟨jn p, N', (pr, jn (sz t), jn (0 + sz t)), ?_, iv', nx, .inr ⟨p, rfl, hp, rp, lvs_okt t lv, h60, hdp, g1⟩⟩
        unfold fJ_keep fM_read_P
        refine bnd hemp (ifn (by decide) (bnd ht1 (ifn (by decide) (bnd ht0 (ifp rfl (bnd htc (bnd (bnd e1 rfl) (ifp ?_ rfl))))))))
        rw [show (-1 : Int32) = jng from rfl, ne_eq, j_neeq (by omega)]
        exact fun h => h
      · obtain ⟨x1, x2⟩ := k_cut hiv hN' nx
        refine ⟨jng, cutN N' (nmt N), (pr, jn (sz t), x), ?_, x1, x2, .inl rfl⟩
        unfold fJ_keep fM_read_P
        exact bnd hemp (ifn (by decide) (bnd ht1 (ifn (by decide) (bnd ht0 (ifp rfl (bnd htc (bnd (bnd e1 rfl) (ifn (by decide) (bnd rfl rfl)))))))))
