/-! ===== a node that is like one, or a new one ===== -/
theorem b_find_l {fl q : Nat} {N : cN} {T : cT} (hN : NI N) (hT : TT q (dr N) T) (G : cG) (U : cU) (p x y : Int32) (g : Nat) : ∀ (j w : Nat), j + g = nmt N →
    (∃ i, i < nmt N ∧ N.1 i = p ∧ N.2.1 i = x ∧ N.2.2.1 i = y ∧ lp_fN_termLike_3 fl (w + g + 1) N p x y (jn j) = some (jn i, N) ∧ lp_fm_find_3 fl (w + g + 1) T G U p x y (jn j) = some (jn i, T, U)) ∨
    ((∀ v N', fN_addTerm N p x y = some (v, N') → lp_fN_termLike_3 fl (w + g + 1) N p x y (jn j) = some (v, N')) ∧ ∀ v T' U', fm_make T G U p x y = some (v, T', U') → lp_fm_find_3 fl (w + g + 1) T G U p x y (jn j) = some (v, T', U')) := by
  have h120 : nmt N ≤ 120 := hN.2.2.2.1
  have hT1 : T.1 = jn (nmt N) := hT.1
  have hN1 : N.2.2.2.2.2.2.1 = jn (nmt N) := hN.1
  induction g with
  | zero =>
    intro j w hj
    right
    simp only [Nat.add_zero] at *
    subst hj
    generalize hmm : nmt N = m at *
    obtain ⟨K, L, R, S, D, cap, mt, le, en⟩ := N
    obtain ⟨te, tk, ta, tb, tn, td⟩ := T
    have hN1 : mt = jn m := hN1
    have hT1 : te = jn m := hT1
    subst hN1 hT1
    refine ⟨fun v N' h => ?_, fun v T' U' h => ?_⟩
    · rw [lp_fN_termLike_3]
      (repeat (first | (with_reducible refine ifn ?_ ?_; (focus (simp (disch := omega) only [jlo, jl0, jl1, jl2, jl3, jl4, jl5, jl9, jl10, jl12, jl16, jl30, jl60, jl63, jl64, jl80, jl100, jl120, jl512, jlM, jlm, j_lt, j_le, j_eq, j_add, j_mul, j_div, j_mod, j_sub, j_m1, j_nelt, j_melt, j_nele, j_mele, j_neeq, j_meeq, j_nat, j_bz0, j_bz1, jc_le0, jc_le1, jc_lt0, jc_lt1, jc_eq0, jc_eq1, Nat.not_lt_zero, Nat.zero_le, ne_eq, false_or, or_false, true_or, or_true, not_false_eq_true, not_true_eq_false, ↓reduceIte, Option.bind_some, Nat.add_sub_cancel, Nat.add_sub_cancel_left, reduceCtorEq, Option.some.injEq, Prod.mk.injEq, true_and, and_true, decide_true, decide_false, Bool.true_eq_false, Bool.false_eq_true, Bool.not_eq_true, Bool.not_eq_false, h]; done))) | (with_reducible refine ifp ?_ ?_; (focus (simp (disch := omega) only [jlo, jl0, jl1, jl2, jl3, jl4, jl5, jl9, jl10, jl12, jl16, jl30, jl60, jl63, jl64, jl80, jl100, jl120, jl512, jlM, jlm, j_lt, j_le, j_eq, j_add, j_mul, j_div, j_mod, j_sub, j_m1, j_nelt, j_melt, j_nele, j_mele, j_neeq, j_meeq, j_nat, j_bz0, j_bz1, jc_le0, jc_le1, jc_lt0, jc_lt1, jc_eq0, jc_eq1, Nat.not_lt_zero, Nat.zero_le, ne_eq, false_or, or_false, true_or, or_true, not_false_eq_true, not_true_eq_false, ↓reduceIte, Option.bind_some, Nat.add_sub_cancel, Nat.add_sub_cancel_left, reduceCtorEq, Option.some.injEq, Prod.mk.injEq, true_and, and_true, decide_true, decide_false, Bool.true_eq_false, Bool.false_eq_true, Bool.not_eq_true, Bool.not_eq_false, h]; done))) | (with_reducible apply bnd1; (focus ((try simp (disch := omega) only [jlo, jl0, jl1, jl2, jl3, jl4, jl5, jl9, jl10, jl12, jl16, jl30, jl60, jl63, jl64, jl80, jl100, jl120, jl512, jlM, jlm, j_lt, j_le, j_eq, j_add, j_mul, j_div, j_mod, j_sub, j_m1, j_nelt, j_melt, j_nele, j_mele, j_neeq, j_meeq, j_nat, j_bz0, j_bz1, jc_le0, jc_le1, jc_lt0, jc_lt1, jc_eq0, jc_eq1, Nat.not_lt_zero, Nat.zero_le, ne_eq, false_or, or_false, true_or, or_true, not_false_eq_true, not_true_eq_false, ↓reduceIte, Option.bind_some, Nat.add_sub_cancel, Nat.add_sub_cancel_left, reduceCtorEq, Option.some.injEq, Prod.mk.injEq, true_and, and_true, decide_true, decide_false, Bool.true_eq_false, Bool.false_eq_true, Bool.not_eq_true, Bool.not_eq_false, h]); exact rfl)); with_reducible refine bnd rfl ?_)))
      rfl
    · rw [lp_fm_find_3]
      (repeat (first | (with_reducible refine ifn ?_ ?_; (focus (simp (disch := omega) only [jlo, jl0, jl1, jl2, jl3, jl4, jl5, jl9, jl10, jl12, jl16, jl30, jl60, jl63, jl64, jl80, jl100, jl120, jl512, jlM, jlm, j_lt, j_le, j_eq, j_add, j_mul, j_div, j_mod, j_sub, j_m1, j_nelt, j_melt, j_nele, j_mele, j_neeq, j_meeq, j_nat, j_bz0, j_bz1, jc_le0, jc_le1, jc_lt0, jc_lt1, jc_eq0, jc_eq1, Nat.not_lt_zero, Nat.zero_le, ne_eq, false_or, or_false, true_or, or_true, not_false_eq_true, not_true_eq_false, ↓reduceIte, Option.bind_some, Nat.add_sub_cancel, Nat.add_sub_cancel_left, reduceCtorEq, Option.some.injEq, Prod.mk.injEq, true_and, and_true, decide_true, decide_false, Bool.true_eq_false, Bool.false_eq_true, Bool.not_eq_true, Bool.not_eq_false, h]; done))) | (with_reducible refine ifp ?_ ?_; (focus (simp (disch := omega) only [jlo, jl0, jl1, jl2, jl3, jl4, jl5, jl9, jl10, jl12, jl16, jl30, jl60, jl63, jl64, jl80, jl100, jl120, jl512, jlM, jlm, j_lt, j_le, j_eq, j_add, j_mul, j_div, j_mod, j_sub, j_m1, j_nelt, j_melt, j_nele, j_mele, j_neeq, j_meeq, j_nat, j_bz0, j_bz1, jc_le0, jc_le1, jc_lt0, jc_lt1, jc_eq0, jc_eq1, Nat.not_lt_zero, Nat.zero_le, ne_eq, false_or, or_false, true_or, or_true, not_false_eq_true, not_true_eq_false, ↓reduceIte, Option.bind_some, Nat.add_sub_cancel, Nat.add_sub_cancel_left, reduceCtorEq, Option.some.injEq, Prod.mk.injEq, true_and, and_true, decide_true, decide_false, Bool.true_eq_false, Bool.false_eq_true, Bool.not_eq_true, Bool.not_eq_false, h]; done))) | (with_reducible apply bnd1; (focus ((try simp (disch := omega) only [jlo, jl0, jl1, jl2, jl3, jl4, jl5, jl9, jl10, jl12, jl16, jl30, jl60, jl63, jl64, jl80, jl100, jl120, jl512, jlM, jlm, j_lt, j_le, j_eq, j_add, j_mul, j_div, j_mod, j_sub, j_m1, j_nelt, j_melt, j_nele, j_mele, j_neeq, j_meeq, j_nat, j_bz0, j_bz1, jc_le0, jc_le1, jc_lt0, jc_lt1, jc_eq0, jc_eq1, Nat.not_lt_zero, Nat.zero_le, ne_eq, false_or, or_false, true_or, or_true, not_false_eq_true, not_true_eq_false, ↓reduceIte, Option.bind_some, Nat.add_sub_cancel, Nat.add_sub_cancel_left, reduceCtorEq, Option.some.injEq, Prod.mk.injEq, true_and, and_true, decide_true, decide_false, Bool.true_eq_false, Bool.false_eq_true, Bool.not_eq_true, Bool.not_eq_false, h]); exact rfl)); with_reducible refine bnd rfl ?_)))
      rfl
  | succ g ih =>
    intro j w hj
    have hjm : j < nmt N := by omega
    have hv : vd N j := .inl hjm
    have k1 := c_kindraw hN hv
    obtain ⟨k2, k3, -, -⟩ := c_left hN hv
    obtain ⟨⟨e1, e2, e3, -, -⟩, -⟩ := hT.2 j hjm
    have e1 : T.2.1 j = N.1 j := e1
    have e2 : T.2.2.1 j = N.2.1 j := e2
    have e3 : T.2.2.2.1 j = N.2.2.1 j := e3
    have h1 := ih (j + 1) w (by omega)
    rw [← j_add] at h1
    have hg : ¬ (jn j < 0 ∨ 120 ≤ (jn j).toNatClampNeg) := by
      rw [jl0, j_lt (by omega) (by omega), j_nat (by omega)]
      omega
    have hnj : (jn j).toNatClampNeg = j := j_nat (by omega)
    have hlt : ¬ jn (nmt N) ≤ jn j := by
      rw [j_le (by omega) (by omega)]
      omega
    have hcl : ∀ r, (if p = N.1 j ∧ x = N.2.1 j ∧ y = N.2.2.1 j then some (jn j, N) = r else lp_fN_termLike_3 fl (w + g + 1) N p x y (jn j + jn 1) = r) → lp_fN_termLike_3 fl (w + (g + 1) + 1) N p x y (jn j) = r := by
      intro r hr
      rw [show w + (g + 1) + 1 = w + g + 1 + 1 by omega, lp_fN_termLike_3]
      generalize hmm : nmt N = m at *
      obtain ⟨K, L, R, S, D, cap, mt, le, en⟩ := N
      have hN1 : mt = jn m := hN1
      subst hN1
      refine ifn hlt (bnd k1 ?_)
      by_cases c1 : p = K j
      · refine ifn (fun h => h c1.symm) (bnd k2 ?_)
        by_cases c2 : x = L j
        · refine ifn (fun h => h c2.symm) (bnd k3 ?_)
          by_cases c3 : y = R j
          · rw [if_pos ⟨c1, c2, c3⟩] at hr
            exact ifn (fun h => h c3.symm) hr
          · rw [if_neg (fun h => c3 h.2.2)] at hr
            exact ifp (fun h => c3 h.symm) hr
        · rw [if_neg (fun h => c2 h.2.1)] at hr
          exact ifp (fun h => c2 h.symm) hr
      · rw [if_neg (fun h => c1 h.1)] at hr
        exact ifp (fun h => c1 h.symm) hr
    have hmo : ∀ r, (if p = N.1 j ∧ x = N.2.1 j ∧ y = N.2.2.1 j then some (jn j, T, U) = r else lp_fm_find_3 fl (w + g + 1) T G U p x y (jn j + jn 1) = r) → lp_fm_find_3 fl (w + (g + 1) + 1) T G U p x y (jn j) = r := by
      intro r hr
      rw [show w + (g + 1) + 1 = w + g + 1 + 1 by omega, lp_fm_find_3]
      rw [← e1, ← e2, ← e3] at hr
      obtain ⟨te, tk, ta, tb, tn, td⟩ := T
      have hT1 : te = jn (nmt N) := hT1
      subst hT1
      refine ifn hlt (ifn hg ?_)
      by_cases c1 : p = tk j
      · refine ifn (fun h => h ?_) (ifn hg ?_)
        · rw [hnj]
          exact c1.symm
        by_cases c2 : x = ta j
        · refine ifn (fun h => h ?_) (ifn hg ?_)
          · rw [hnj]
            exact c2.symm
          by_cases c3 : y = tb j
          · rw [if_pos ⟨c1, c2, c3⟩] at hr
            refine ifn (fun h => h ?_) hr
            rw [hnj]
            exact c3.symm
          · rw [if_neg (fun h => c3 h.2.2)] at hr
            refine ifp (fun h => c3 ?_) hr
            rw [hnj] at h
            exact h.symm
        · rw [if_neg (fun h => c2 h.2.1)] at hr
          refine ifp (fun h => c2 ?_) hr
          rw [hnj] at h
          exact h.symm
      · rw [if_neg (fun h => c1 h.1)] at hr
        refine ifp (fun h => c1 ?_) hr
        rw [hnj] at h
        exact h.symm
    by_cases hc : p = N.1 j ∧ x = N.2.1 j ∧ y = N.2.2.1 j
    · exact .inl ⟨j, hjm, hc.1.symm, hc.2.1.symm, hc.2.2.symm, hcl _ (by rw [if_pos hc]), hmo _ (by rw [if_pos hc])⟩
    · rcases h1 with ⟨i, x1, x2, x3, x4, x5, x6⟩ | ⟨x1, x2⟩
      · exact .inl ⟨i, x1, x2, x3, x4, hcl _ (by rw [if_neg hc]; exact x5), hmo _ (by rw [if_neg hc]; exact x6)⟩
      · exact .inr ⟨fun v N' h => hcl _ (by rw [if_neg hc]; exact x1 v N' h), fun v T' U' h => hmo _ (by rw [if_neg hc]; exact x2 v T' U' h)⟩
/-- what a node is -/
def Nd (q : Nat) (N : cN) (p x y : Int32) (t : tm) : Prop := (∃ m, t = .leaf m ∧ p = jn (m % 10) ∧ x = jn (m / 10) ∧ y = jng) ∨
  (∃ k a b l r, t = .branch k l r ∧ p = jn k ∧ x = jn a ∧ y = jn b ∧ a < 120 ∧ b < 120 ∧ Rp (dr N) a l ∧ Rp (dr N) b r)
theorem node_is {q : Nat} {N : cN} {T : cT} (hq : q ≤ 16) (hN : NI N) (hT : TT q (dr N) T) {i : Nat} (hi : i < nmt N) {p x y : Int32} (e1 : N.1 i = p) (e2 : N.2.1 i = x) (e3 : N.2.2.1 i = y) {t : tm} (hg : Nd q N p x y t) (hk : okt 10 q 30 t) (hd : dp t ≤ 12) : Rp (dr N) i t ∧ Tr (nmt N) T.2.1 T.2.2.1 T.2.2.2.1 i t ∧ okt 9 q 10 t ∧ sz t ≤ 60 ∧ dp t ≤ 12 := by
  obtain ⟨t', h1, h2, h3, h4, h5⟩ := tt_get hT hi
  have hw : wft t := wf9 hq hk (by omega) hd
  have hw' : wft t' := okt_wft (by omega) (by omega) t' h3 (by omega)
  have : t' = t := by
    rcases hg with ⟨m, rfl, rfl, rfl, rfl⟩ | ⟨k, a, b, l, r, rfl, rfl, rfl, rfl, ha, hb, hl, hr⟩
    · cases t' with
      | leaf m' =>
        have g1 : N.1 i = jn (m' % 10) := h1.2.1
        have g2 : N.2.1 i = jn (m' / 10) := h1.2.2.1
        have hm := hw.1
        have hm' := hw'.1
        rw [e1, j_eq (by omega) (by omega)] at g1
        rw [e2, j_eq (by omega) (by omega)] at g2
        rw [show m' = m by omega]
      | branch k' l' r' =>
        have g1 : N.1 i = jn k' := h1.2.1
        have hm := hw.2
        have hk' := hw'.1
        rw [e1, j_eq (by omega) (by omega)] at g1
        omega
    · cases t' with
      | leaf m' =>
        have g1 : N.1 i = jn (m' % 10) := h1.2.1
        have hm' := hw'.2
        have hk' := hw.1
        rw [e1, j_eq (by omega) (by omega)] at g1
        omega
      | branch k' l' r' =>
        have g1 : N.1 i = jn k' := h1.2.1
        obtain ⟨-, -, -, -, a', b', g2, g3, g4, g5⟩ := h1
        have g2 : N.2.1 i = jn a' := g2
        have g3 : N.2.2.1 i = jn b' := g3
        have ha' := (vd_lt (dr_ni hN) (rp_vd g4)).2
        have hb' := (vd_lt (dr_ni hN) (rp_vd g5)).2
        have hk1 := hw.1
        have hk2 := hw'.1
        rw [e1, j_eq (by omega) (by omega)] at g1
        rw [e2, j_eq (by omega) (by omega)] at g2
        rw [e3, j_eq (by omega) (by omega)] at g3
        subst g1 g2 g3
        rw [rp_inj (dr_ni hN) l hw.2.1 hw'.2.1 hl g4, rp_inj (dr_ni hN) r hw.2.2 hw'.2.2 hr g5]
  subst this
  exact ⟨h1, h2, h3, h4, h5⟩
/-- more terms, and all else as it was -/
def Nx (N : cN) (T : cT) (N' : cN) (T' : cT) : Prop := nmt N ≤ nmt N' ∧ Gx (dr N) (dr N') ∧ N'.2.2.2.2.2.2.2 = N.2.2.2.2.2.2.2 ∧ ncap N' = ncap N ∧ ∀ p, p < nmt N → T'.2.1 p = T.2.1 p ∧ T'.2.2.1 p = T.2.2.1 p ∧ T'.2.2.2.1 p = T.2.2.2.1 p ∧ T'.2.2.2.2.1 p = T.2.2.2.2.1 p ∧ T'.2.2.2.2.2 p = T.2.2.2.2.2 p
theorem nx_refl (N : cN) (T : cT) : Nx N T N T := ⟨Nat.le_refl _, fun p h => ⟨h, rfl, rfl, rfl, rfl, rfl⟩, rfl, rfl, fun _ _ => ⟨rfl, rfl, rfl, rfl, rfl⟩⟩
theorem nx_trans {N N' N'' : cN} {T T' T'' : cT} (h : Nx N T N' T') (h' : Nx N' T' N'' T'') : Nx N T N'' T'' := by
  obtain ⟨a1, a2, a3, a4, a5⟩ := h
  obtain ⟨b1, b2, b3, b4, b5⟩ := h'
  refine ⟨Nat.le_trans a1 b1, gx_trans a2 b2, b3.trans a3, b4.trans a4, fun p hp => ?_⟩
  obtain ⟨x1, x2, x3, x4, x5⟩ := a5 p hp
  obtain ⟨y1, y2, y3, y4, y5⟩ := b5 p (by omega)
  exact ⟨y1.trans x1, y2.trans x2, y3.trans x3, y4.trans x4, y5.trans x5⟩
theorem nx_add {N : cN} {T : cT} (hN : NI N) (hm : nmt N < 120) (k a b s d : Int32) : Nx N T (addN N k a b s d) (addT (nmt N) T k a b s d) := by
  refine ⟨by rw [nmt_add hm]; omega, gx_add (N := dr N) (dr_ni hN) hm, rfl, rfl, fun p hp => ?_⟩
  have hne : p ≠ nmt N := Nat.ne_of_lt hp
  exact ⟨if_neg hne, if_neg hne, if_neg hne, if_neg hne, if_neg hne⟩
theorem tr_nx {N N' : cN} {T T' : cT} (h : Nx N T N' T') {p : Nat} {t : tm} (ht : Tr (nmt N) T.2.1 T.2.2.1 T.2.2.2.1 p t) : Tr (nmt N') T'.2.1 T'.2.2.1 T'.2.2.2.1 p t :=
  tr_mono h.1 (fun x hx => ⟨(h.2.2.2.2 x hx).1, (h.2.2.2.2 x hx).2.1, (h.2.2.2.2 x hx).2.2.1⟩) t ht
theorem b_find {fl q : Nat} (hfl : 10000 ≤ fl) {N : cN} {C : cC} {P : cP} {T : cT} {G : cG} {H : cH} {B : cB} {ct : Nat → tm} {bo : Nat → Option tm} (h : Iv q N C P T G H B ct bo) (U : cU) {p x y : Int32} {t : tm} (hnd : Nd q N p x y t) (hg : Gd q N T p x y) (hk : okt 9 q 10 t) (hd : dp t ≤ 12) :
    (∃ i N' T' U', fN_termLike fl N p x y = some (jn i, N') ∧ fm_find fl T G U p x y = some (jn i, T', U') ∧ Iv q N' C P T' G H B ct bo ∧ Nx N T N' T' ∧ i < nmt N' ∧ Rp (dr N') i t ∧ Tr (nmt N') T'.2.1 T'.2.2.1 T'.2.2.2.1 i t) ∨
    (fN_termLike fl N p x y = some (jng, N) ∧ ∃ U', fm_find fl T G U p x y = some (jng, T, U')) := by
  have hiv := h
  obtain ⟨hN, -, hT, hC, hG, -, -, -⟩ := h
  have hq : q ≤ 16 := hC.2.1
  have h120 : nmt N ≤ 120 := hN.2.2.2.1
  have hk30 : okt 10 q 30 t := okt_mono (by omega) (Nat.le_refl q) t (by omega) hk
  have hl := b_find_l (fl := fl) hN hT G U p x y (nmt N) 0 (fl - nmt N - 1) (by omega)
  rw [show fl - nmt N - 1 + nmt N + 1 = fl by omega] at hl
  rcases hl with ⟨i, hi, e1, e2, e3, f1, f2⟩ | ⟨f1, f2⟩
  · obtain ⟨g1, g2, -⟩ := node_is hq hN hT hi e1 e2 e3 hnd hk30 hd
    exact .inl ⟨i, N, T, U, f1, f2, hiv, nx_refl N T, hi, g1, g2⟩
  · have hy : (∃ m, p = jn (m % 10) ∧ okt 9 q 10 (.leaf m) ∧ y = jng) ∨ ((∃ k, p = jn k ∧ (k = 2 ∨ k = 3 ∨ k = 4)) ∧ y = y) := by
      rcases hnd with ⟨m, rfl, rfl, rfl, rfl⟩ | ⟨k, a, b, l, r, rfl, rfl, rfl, rfl, -⟩
      · exact .inl ⟨m, rfl, hk, rfl⟩
      · exact .inr ⟨⟨k, rfl, hk.1⟩, rfl⟩
    rcases b_new hiv U hg y hy with ⟨-, n1, n2⟩ | ⟨hm, s, d, n1, n2, n3⟩
    · exact .inr ⟨f1 _ _ n1, jn 0, f2 _ _ _ n2⟩
    · have hgx := gx_add (N := dr N) (dr_ni hN) hm (k := p) (a := x) (b := y) (s := s) (d := d)
      have hnd' : Nd q (addN N p x y s d) p x y t := by
        rcases hnd with ⟨m, rfl, rfl, rfl, rfl⟩ | ⟨k, a, b, l, r, rfl, rfl, rfl, rfl, ha, hb, hl, hr⟩
        · exact .inl ⟨m, rfl, rfl, rfl, rfl⟩
        · exact .inr ⟨k, a, b, l, r, rfl, rfl, rfl, rfl, ha, hb, rp_gx hgx l hl, rp_gx hgx r hr⟩
      have hi : nmt N < nmt (addN N p x y s d) := by
        rw [nmt_add hm]
        omega
      obtain ⟨g1, g2, -⟩ := node_is hq n3.1 n3.2.2.1 hi (if_pos rfl) (if_pos rfl) (if_pos rfl) hnd' hk30 hd
      exact .inl ⟨nmt N, _, _, jn 0, f1 _ _ n1, f2 _ _ _ n2, n3, nx_add hN hm p x y s d, hi, g1, g2⟩
