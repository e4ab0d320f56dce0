/-! ===== typeOf, mark, hasBody, constants, term, terms ===== -/
theorem c_there {q : Nat} {N : cN} {C : cC} {ct : Nat → tm} {bo : Nat → Option tm} (h : CI q N C ct bo) (p : Int32) : (∃ c, c < q ∧ p = jn c ∧ fC_isThere C p = some true) ∨ (fC_isThere C p = some false ∧ ∀ c, c < q → p ≠ jn c) := by
  obtain ⟨ctt, cb, cm⟩ := C
  have h1 : cm = jn q := h.1
  have h2 := h.2.1
  subst h1
  rcases j_any p with hp | ⟨c, hc, rfl⟩
  · refine .inr ⟨?_, fun c hc e => ?_⟩
    · unfold fC_isThere
      exact if_pos hp
    · rw [e, j_lt (by omega) (by omega)] at hp
      omega
  · by_cases hcq : c < q
    · refine .inl ⟨c, hcq, rfl, ?_⟩
      unfold fC_isThere
      (repeat (first | (with_reducible refine ifn ?_ ?_; (focus (simp (disch := omega) only [jlo, jl0, jl1, jl2, jl3, jl4, jl5, jl9, jl10, jl12, jl16, jl30, jl60, jl63, jl64, jl80, jl100, jl120, jl512, jlM, jlm, j_lt, j_le, j_eq, j_add, j_mul, j_div, j_mod, j_sub, j_m1, j_nelt, j_melt, j_nele, j_mele, j_neeq, j_meeq, j_nat, j_bz0, j_bz1, jc_le0, jc_le1, jc_lt0, jc_lt1, jc_eq0, jc_eq1, Nat.not_lt_zero, Nat.zero_le, ne_eq, false_or, or_false, true_or, or_true, not_false_eq_true, not_true_eq_false, ↓reduceIte, Option.bind_some, Nat.add_sub_cancel, Nat.add_sub_cancel_left, reduceCtorEq, Option.some.injEq, Prod.mk.injEq, true_and, and_true, decide_true, decide_false, Bool.true_eq_false, Bool.false_eq_true, Bool.not_eq_true, Bool.not_eq_false]; done))) | (with_reducible refine ifp ?_ ?_; (focus (simp (disch := omega) only [jlo, jl0, jl1, jl2, jl3, jl4, jl5, jl9, jl10, jl12, jl16, jl30, jl60, jl63, jl64, jl80, jl100, jl120, jl512, jlM, jlm, j_lt, j_le, j_eq, j_add, j_mul, j_div, j_mod, j_sub, j_m1, j_nelt, j_melt, j_nele, j_mele, j_neeq, j_meeq, j_nat, j_bz0, j_bz1, jc_le0, jc_le1, jc_lt0, jc_lt1, jc_eq0, jc_eq1, Nat.not_lt_zero, Nat.zero_le, ne_eq, false_or, or_false, true_or, or_true, not_false_eq_true, not_true_eq_false, ↓reduceIte, Option.bind_some, Nat.add_sub_cancel, Nat.add_sub_cancel_left, reduceCtorEq, Option.some.injEq, Prod.mk.injEq, true_and, and_true, decide_true, decide_false, Bool.true_eq_false, Bool.false_eq_true, Bool.not_eq_true, Bool.not_eq_false]; done))) | (with_reducible apply bnd1; (focus ((try simp (disch := omega) only [jlo, jl0, jl1, jl2, jl3, jl4, jl5, jl9, jl10, jl12, jl16, jl30, jl60, jl63, jl64, jl80, jl100, jl120, jl512, jlM, jlm, j_lt, j_le, j_eq, j_add, j_mul, j_div, j_mod, j_sub, j_m1, j_nelt, j_melt, j_nele, j_mele, j_neeq, j_meeq, j_nat, j_bz0, j_bz1, jc_le0, jc_le1, jc_lt0, jc_lt1, jc_eq0, jc_eq1, Nat.not_lt_zero, Nat.zero_le, ne_eq, false_or, or_false, true_or, or_true, not_false_eq_true, not_true_eq_false, ↓reduceIte, Option.bind_some, Nat.add_sub_cancel, Nat.add_sub_cancel_left, reduceCtorEq, Option.some.injEq, Prod.mk.injEq, true_and, and_true, decide_true, decide_false, Bool.true_eq_false, Bool.false_eq_true, Bool.not_eq_true, Bool.not_eq_false]); exact rfl)); with_reducible refine bnd rfl ?_)))
      rfl
    · refine .inr ⟨?_, fun c' hc' e => ?_⟩
      · unfold fC_isThere
        (repeat (first | (with_reducible refine ifn ?_ ?_; (focus (simp (disch := omega) only [jlo, jl0, jl1, jl2, jl3, jl4, jl5, jl9, jl10, jl12, jl16, jl30, jl60, jl63, jl64, jl80, jl100, jl120, jl512, jlM, jlm, j_lt, j_le, j_eq, j_add, j_mul, j_div, j_mod, j_sub, j_m1, j_nelt, j_melt, j_nele, j_mele, j_neeq, j_meeq, j_nat, j_bz0, j_bz1, jc_le0, jc_le1, jc_lt0, jc_lt1, jc_eq0, jc_eq1, Nat.not_lt_zero, Nat.zero_le, ne_eq, false_or, or_false, true_or, or_true, not_false_eq_true, not_true_eq_false, ↓reduceIte, Option.bind_some, Nat.add_sub_cancel, Nat.add_sub_cancel_left, reduceCtorEq, Option.some.injEq, Prod.mk.injEq, true_and, and_true, decide_true, decide_false, Bool.true_eq_false, Bool.false_eq_true, Bool.not_eq_true, Bool.not_eq_false]; done))) | (with_reducible refine ifp ?_ ?_; (focus (simp (disch := omega) only [jlo, jl0, jl1, jl2, jl3, jl4, jl5, jl9, jl10, jl12, jl16, jl30, jl60, jl63, jl64, jl80, jl100, jl120, jl512, jlM, jlm, j_lt, j_le, j_eq, j_add, j_mul, j_div, j_mod, j_sub, j_m1, j_nelt, j_melt, j_nele, j_mele, j_neeq, j_meeq, j_nat, j_bz0, j_bz1, jc_le0, jc_le1, jc_lt0, jc_lt1, jc_eq0, jc_eq1, Nat.not_lt_zero, Nat.zero_le, ne_eq, false_or, or_false, true_or, or_true, not_false_eq_true, not_true_eq_false, ↓reduceIte, Option.bind_some, Nat.add_sub_cancel, Nat.add_sub_cancel_left, reduceCtorEq, Option.some.injEq, Prod.mk.injEq, true_and, and_true, decide_true, decide_false, Bool.true_eq_false, Bool.false_eq_true, Bool.not_eq_true, Bool.not_eq_false]; done))) | (with_reducible apply bnd1; (focus ((try simp (disch := omega) only [jlo, jl0, jl1, jl2, jl3, jl4, jl5, jl9, jl10, jl12, jl16, jl30, jl60, jl63, jl64, jl80, jl100, jl120, jl512, jlM, jlm, j_lt, j_le, j_eq, j_add, j_mul, j_div, j_mod, j_sub, j_m1, j_nelt, j_melt, j_nele, j_mele, j_neeq, j_meeq, j_nat, j_bz0, j_bz1, jc_le0, jc_le1, jc_lt0, jc_lt1, jc_eq0, jc_eq1, Nat.not_lt_zero, Nat.zero_le, ne_eq, false_or, or_false, true_or, or_true, not_false_eq_true, not_true_eq_false, ↓reduceIte, Option.bind_some, Nat.add_sub_cancel, Nat.add_sub_cancel_left, reduceCtorEq, Option.some.injEq, Prod.mk.injEq, true_and, and_true, decide_true, decide_false, Bool.true_eq_false, Bool.false_eq_true, Bool.not_eq_true, Bool.not_eq_false]); exact rfl)); with_reducible refine bnd rfl ?_)))
        rfl
      · rw [j_eq hc (by omega)] at e
        omega
theorem c_typeAt {q : Nat} {N : cN} {C : cC} {ct : Nat → tm} {bo : Nat → Option tm} (h : CI q N C ct bo) {c : Nat} (hc : c < q) : fC_typeAt C (jn c) = some (C.1 c) := by
  have h1 := (c_body h hc).2
  obtain ⟨ctt, cb, cm⟩ := C
  have h2 := h.2.1
  unfold fC_typeAt
  (repeat (first | (with_reducible refine ifn ?_ ?_; (focus (simp (disch := omega) only [jlo, jl0, jl1, jl2, jl3, jl4, jl5, jl9, jl10, jl12, jl16, jl30, jl60, jl63, jl64, jl80, jl100, jl120, jl512, jlM, jlm, j_lt, j_le, j_eq, j_add, j_mul, j_div, j_mod, j_sub, j_m1, j_nelt, j_melt, j_nele, j_mele, j_neeq, j_meeq, j_nat, j_bz0, j_bz1, jc_le0, jc_le1, jc_lt0, jc_lt1, jc_eq0, jc_eq1, Nat.not_lt_zero, Nat.zero_le, ne_eq, false_or, or_false, true_or, or_true, not_false_eq_true, not_true_eq_false, ↓reduceIte, Option.bind_some, Nat.add_sub_cancel, Nat.add_sub_cancel_left, reduceCtorEq, Option.some.injEq, Prod.mk.injEq, true_and, and_true, decide_true, decide_false, Bool.true_eq_false, Bool.false_eq_true, Bool.not_eq_true, Bool.not_eq_false, h1]; done))) | (with_reducible refine ifp ?_ ?_; (focus (simp (disch := omega) only [jlo, jl0, jl1, jl2, jl3, jl4, jl5, jl9, jl10, jl12, jl16, jl30, jl60, jl63, jl64, jl80, jl100, jl120, jl512, jlM, jlm, j_lt, j_le, j_eq, j_add, j_mul, j_div, j_mod, j_sub, j_m1, j_nelt, j_melt, j_nele, j_mele, j_neeq, j_meeq, j_nat, j_bz0, j_bz1, jc_le0, jc_le1, jc_lt0, jc_lt1, jc_eq0, jc_eq1, Nat.not_lt_zero, Nat.zero_le, ne_eq, false_or, or_false, true_or, or_true, not_false_eq_true, not_true_eq_false, ↓reduceIte, Option.bind_some, Nat.add_sub_cancel, Nat.add_sub_cancel_left, reduceCtorEq, Option.some.injEq, Prod.mk.injEq, true_and, and_true, decide_true, decide_false, Bool.true_eq_false, Bool.false_eq_true, Bool.not_eq_true, Bool.not_eq_false, h1]; done))) | (with_reducible apply bnd1; (focus ((try simp (disch := omega) only [jlo, jl0, jl1, jl2, jl3, jl4, jl5, jl9, jl10, jl12, jl16, jl30, jl60, jl63, jl64, jl80, jl100, jl120, jl512, jlM, jlm, j_lt, j_le, j_eq, j_add, j_mul, j_div, j_mod, j_sub, j_m1, j_nelt, j_melt, j_nele, j_mele, j_neeq, j_meeq, j_nat, j_bz0, j_bz1, jc_le0, jc_le1, jc_lt0, jc_lt1, jc_eq0, jc_eq1, Nat.not_lt_zero, Nat.zero_le, ne_eq, false_or, or_false, true_or, or_true, not_false_eq_true, not_true_eq_false, ↓reduceIte, Option.bind_some, Nat.add_sub_cancel, Nat.add_sub_cancel_left, reduceCtorEq, Option.some.injEq, Prod.mk.injEq, true_and, and_true, decide_true, decide_false, Bool.true_eq_false, Bool.false_eq_true, Bool.not_eq_true, Bool.not_eq_false, h1]); exact rfl)); with_reducible refine bnd rfl ?_)))
  simp (disch := omega) only [jlo, jl0, jl1, jl2, jl3, jl4, jl5, jl9, jl10, jl12, jl16, jl30, jl60, jl63, jl64, jl80, jl100, jl120, jl512, jlM, jlm, j_lt, j_le, j_eq, j_add, j_mul, j_div, j_mod, j_sub, j_m1, j_nelt, j_melt, j_nele, j_mele, j_neeq, j_meeq, j_nat, j_bz0, j_bz1, jc_le0, jc_le1, jc_lt0, jc_lt1, jc_eq0, jc_eq1, Nat.not_lt_zero, Nat.zero_le, ne_eq, false_or, or_false, true_or, or_true, not_false_eq_true, not_true_eq_false, ↓reduceIte, Option.bind_some, Nat.add_sub_cancel, Nat.add_sub_cancel_left, reduceCtorEq, Option.some.injEq, Prod.mk.injEq, true_and, and_true, decide_true, decide_false, Bool.true_eq_false, Bool.false_eq_true, Bool.not_eq_true, Bool.not_eq_false]
theorem b_typeOf {fl d q : Nat} (hfl : 10000 ≤ fl) (hd : 100 ≤ d) {N : cN} {C : cC} {P : cP} {T : cT} {G : cG} {H : cH} {B : cB} {ct : Nat → tm} {bo : Nat → Option tm} (h : Iv q N C P T G H B ct bo) (U : cU) (p : Int32) :
    ∃ x P' H' B', fJ_typeOf d N C P p = some (x, P') ∧ fm_typeOf fl G U H B p = some (x, jn 0, H', B') ∧ Iv q N C P' T G H' B' ct bo := by
  have hiv := h
  obtain ⟨hN, hle, hT, hC, hG, hty, hbo, hrs⟩ := h
  have hq : q ≤ 16 := hC.2.1
  obtain ⟨gc, gb⟩ := G
  have hG : gc = jn q := hG
  subst hG
  rcases c_there hC p with ⟨c, hc, rfl, h1⟩ | ⟨h1, h2⟩
  · obtain ⟨⟨tp, g1, g2⟩, -⟩ := hC.2.2 c hc
    obtain ⟨hrow, h60, hdp, hk⟩ := hty c hc
    have hk10 : okt 10 q 10 (ct c) := okt_mono (by omega) (Nat.le_refl q) _ (Nat.le_refl 10) hk
    have hw : wft (ct c) := wf9 hq hk10 (by omega) hdp
    have ha := c_typeAt hC hc
    rw [g1] at ha
    obtain ⟨pr, w1, sg⟩ := c_writeP (P := P) hN hw (rp_ex (dr_ex hN) _ g2) (by omega : dp (ct c) ≤ d) h60
    obtain ⟨B2, m3, r2, s2⟩ := b_setRes hfl H (by omega) (by omega) h60 hrow
    rw [← j_add] at m3
    refine ⟨jn (sz (ct c)), (pr, jn (sz (ct c)), P.2.2), jn 1, B2, ?_, ?_, iv_res hiv hk10 h60 hdp rfl sg r2 (fun ρ hρ => s2 ρ (by omega))⟩
    · unfold fJ_typeOf
      exact bnd h1 (ifp (by decide) (bnd ha (bnd w1 rfl)))
    · unfold fm_typeOf
      refine ifn ?_ (ifp ?_ (bnd m3 rfl))
      · rw [jl0, j_lt (by omega) (by omega)]
        omega
      · rw [j_lt (by omega) (by omega)]
        exact hc
  · refine ⟨-1, P, H, B, ?_, ?_, hiv⟩
    · unfold fJ_typeOf
      exact bnd h1 (ifn (by decide) rfl)
    · unfold fm_typeOf
      by_cases hp : p < 0
      · exact ifp hp rfl
      · refine ifn hp (ifn ?_ rfl)
        rcases j_any p with hp2 | ⟨c, hc, rfl⟩
        · exact absurd hp2 hp
        · rw [j_lt hc (by omega)]
          intro hcq
          exact h2 c hcq rfl
theorem seg_nth {f : Nat → Int32} (ys : List Nat) : ∀ {p i : Nat}, Seg f p ys → i < ys.length → ∃ m, ys[i]? = some m ∧ f (p + i) = jn m := by
  induction ys with
  | nil => intro p i _ h; exact absurd h (Nat.not_lt_zero i)
  | cons y ys ih =>
    intro p i hs hi
    cases i with
    | zero => exact ⟨y, rfl, hs.1⟩
    | succ i =>
      obtain ⟨m, h1, h2⟩ := ih hs.2 (Nat.lt_of_succ_lt_succ hi)
      exact ⟨m, h1, by rw [show p + (i + 1) = p + 1 + i by omega]; exact h2⟩
theorem b_mark {q : Nat} {N : cN} {C : cC} {P : cP} {T : cT} {G : cG} {H : cH} {B : cB} {ct : Nat → tm} {bo : Nat → Option tm} (h : Iv q N C P T G H B ct bo) (U : cU) (p : Int32) : ∃ x, fJ_mark P p = some x ∧ fm_mark U H B p = some (x, jn 0) := by
  obtain ⟨-, -, -, -, -, -, -, hrs⟩ := h
  obtain ⟨pr, pl, px⟩ := P
  obtain ⟨br, bl⟩ := B
  rcases hrs with ⟨h1, h2⟩ | ⟨h1, t, hk, h60, hdp, h2, h3, h4⟩
  · have h2 : pl = jn 0 := h2
    subst h1 h2
    refine ⟨-1, ?_, ?_⟩
    · unfold fJ_mark
      refine bnd (a := -1) ?_ rfl
      unfold fM_at_P
      rcases j_any p with hp | ⟨c, hc, rfl⟩
      · exact ifp hp rfl
      · (repeat (first | (with_reducible refine ifn ?_ ?_; (focus (simp (disch := omega) only [jlo, jl0, jl1, jl2, jl3, jl4, jl5, jl9, jl10, jl12, jl16, jl30, jl60, jl63, jl64, jl80, jl100, jl120, jl512, jlM, jlm, j_lt, j_le, j_eq, j_add, j_mul, j_div, j_mod, j_sub, j_m1, j_nelt, j_melt, j_nele, j_mele, j_neeq, j_meeq, j_nat, j_bz0, j_bz1, jc_le0, jc_le1, jc_lt0, jc_lt1, jc_eq0, jc_eq1, Nat.not_lt_zero, Nat.zero_le, ne_eq, false_or, or_false, true_or, or_true, not_false_eq_true, not_true_eq_false, ↓reduceIte, Option.bind_some, Nat.add_sub_cancel, Nat.add_sub_cancel_left, reduceCtorEq, Option.some.injEq, Prod.mk.injEq, true_and, and_true, decide_true, decide_false, Bool.true_eq_false, Bool.false_eq_true, Bool.not_eq_true, Bool.not_eq_false]; done))) | (with_reducible refine ifp ?_ ?_; (focus (simp (disch := omega) only [jlo, jl0, jl1, jl2, jl3, jl4, jl5, jl9, jl10, jl12, jl16, jl30, jl60, jl63, jl64, jl80, jl100, jl120, jl512, jlM, jlm, j_lt, j_le, j_eq, j_add, j_mul, j_div, j_mod, j_sub, j_m1, j_nelt, j_melt, j_nele, j_mele, j_neeq, j_meeq, j_nat, j_bz0, j_bz1, jc_le0, jc_le1, jc_lt0, jc_lt1, jc_eq0, jc_eq1, Nat.not_lt_zero, Nat.zero_le, ne_eq, false_or, or_false, true_or, or_true, not_false_eq_true, not_true_eq_false, ↓reduceIte, Option.bind_some, Nat.add_sub_cancel, Nat.add_sub_cancel_left, reduceCtorEq, Option.some.injEq, Prod.mk.injEq, true_and, and_true, decide_true, decide_false, Bool.true_eq_false, Bool.false_eq_true, Bool.not_eq_true, Bool.not_eq_false]; done))) | (with_reducible apply bnd1; (focus ((try simp (disch := omega) only [jlo, jl0, jl1, jl2, jl3, jl4, jl5, jl9, jl10, jl12, jl16, jl30, jl60, jl63, jl64, jl80, jl100, jl120, jl512, jlM, jlm, j_lt, j_le, j_eq, j_add, j_mul, j_div, j_mod, j_sub, j_m1, j_nelt, j_melt, j_nele, j_mele, j_neeq, j_meeq, j_nat, j_bz0, j_bz1, jc_le0, jc_le1, jc_lt0, jc_lt1, jc_eq0, jc_eq1, Nat.not_lt_zero, Nat.zero_le, ne_eq, false_or, or_false, true_or, or_true, not_false_eq_true, not_true_eq_false, ↓reduceIte, Option.bind_some, Nat.add_sub_cancel, Nat.add_sub_cancel_left, reduceCtorEq, Option.some.injEq, Prod.mk.injEq, true_and, and_true, decide_true, decide_false, Bool.true_eq_false, Bool.false_eq_true, Bool.not_eq_true, Bool.not_eq_false]); exact rfl)); with_reducible refine bnd rfl ?_)))
        rfl
    · unfold fm_mark
      exact ifp rfl rfl
  · have h2 : pl = jn (sz t) := h2
    subst h1 h2
    have hb2 : bl 2 = jn (sz t) := h4.1
    rcases j_any p with hp | ⟨c, hc, rfl⟩
    · refine ⟨-1, ?_, ?_⟩
      · unfold fJ_mark
        refine bnd (a := -1) ?_ rfl
        unfold fM_at_P
        exact ifp hp rfl
      · unfold fm_mark
        exact ifn (by decide) (ifp hp rfl)
    · by_cases hcl : c < sz t
      · obtain ⟨m, e1, e2⟩ := seg_nth (enc t) (p := 0) (i := c) h3 (by rw [enc_len]; exact hcl)
        obtain ⟨m', e3, e4⟩ := seg_nth (enc t) (p := 60 * 2) (i := c) h4.2 (by rw [enc_len]; exact hcl)
        rw [e1] at e3
        cases e3
        rw [Nat.zero_add] at e2
        have e2 : pr c = jn m := e2
        have ha := c_atP (qr := pr) (qx := px) hcl h60
        have hat : fm_at (br, bl) (jn 2) (jn c) = some (br (60 * 2 + c)) := q_at (by omega)
        rw [show br (60 * 2 + c) = jn m from e4] at hat
        refine ⟨jn m, ?_, ?_⟩
        · unfold fJ_mark
          exact bnd (ha.trans (by rw [e2])) rfl
        · unfold fm_mark
          (repeat (first | (with_reducible refine ifn ?_ ?_; (focus (simp (disch := omega) only [jlo, jl0, jl1, jl2, jl3, jl4, jl5, jl9, jl10, jl12, jl16, jl30, jl60, jl63, jl64, jl80, jl100, jl120, jl512, jlM, jlm, j_lt, j_le, j_eq, j_add, j_mul, j_div, j_mod, j_sub, j_m1, j_nelt, j_melt, j_nele, j_mele, j_neeq, j_meeq, j_nat, j_bz0, j_bz1, jc_le0, jc_le1, jc_lt0, jc_lt1, jc_eq0, jc_eq1, Nat.not_lt_zero, Nat.zero_le, ne_eq, false_or, or_false, true_or, or_true, not_false_eq_true, not_true_eq_false, ↓reduceIte, Option.bind_some, Nat.add_sub_cancel, Nat.add_sub_cancel_left, reduceCtorEq, Option.some.injEq, Prod.mk.injEq, true_and, and_true, decide_true, decide_false, Bool.true_eq_false, Bool.false_eq_true, Bool.not_eq_true, Bool.not_eq_false, hb2, hat]; done))) | (with_reducible refine ifp ?_ ?_; (focus (simp (disch := omega) only [jlo, jl0, jl1, jl2, jl3, jl4, jl5, jl9, jl10, jl12, jl16, jl30, jl60, jl63, jl64, jl80, jl100, jl120, jl512, jlM, jlm, j_lt, j_le, j_eq, j_add, j_mul, j_div, j_mod, j_sub, j_m1, j_nelt, j_melt, j_nele, j_mele, j_neeq, j_meeq, j_nat, j_bz0, j_bz1, jc_le0, jc_le1, jc_lt0, jc_lt1, jc_eq0, jc_eq1, Nat.not_lt_zero, Nat.zero_le, ne_eq, false_or, or_false, true_or, or_true, not_false_eq_true, not_true_eq_false, ↓reduceIte, Option.bind_some, Nat.add_sub_cancel, Nat.add_sub_cancel_left, reduceCtorEq, Option.some.injEq, Prod.mk.injEq, true_and, and_true, decide_true, decide_false, Bool.true_eq_false, Bool.false_eq_true, Bool.not_eq_true, Bool.not_eq_false, hb2, hat]; done))) | (with_reducible apply bnd1; (focus ((try simp (disch := omega) only [jlo, jl0, jl1, jl2, jl3, jl4, jl5, jl9, jl10, jl12, jl16, jl30, jl60, jl63, jl64, jl80, jl100, jl120, jl512, jlM, jlm, j_lt, j_le, j_eq, j_add, j_mul, j_div, j_mod, j_sub, j_m1, j_nelt, j_melt, j_nele, j_mele, j_neeq, j_meeq, j_nat, j_bz0, j_bz1, jc_le0, jc_le1, jc_lt0, jc_lt1, jc_eq0, jc_eq1, Nat.not_lt_zero, Nat.zero_le, ne_eq, false_or, or_false, true_or, or_true, not_false_eq_true, not_true_eq_false, ↓reduceIte, Option.bind_some, Nat.add_sub_cancel, Nat.add_sub_cancel_left, reduceCtorEq, Option.some.injEq, Prod.mk.injEq, true_and, and_true, decide_true, decide_false, Bool.true_eq_false, Bool.false_eq_true, Bool.not_eq_true, Bool.not_eq_false, hb2, hat]); exact rfl)); with_reducible refine bnd rfl ?_)))
          rfl
      · refine ⟨-1, ?_, ?_⟩
        · unfold fJ_mark
          refine bnd (a := -1) ?_ rfl
          unfold fM_at_P
          (repeat (first | (with_reducible refine ifn ?_ ?_; (focus (simp (disch := omega) only [jlo, jl0, jl1, jl2, jl3, jl4, jl5, jl9, jl10, jl12, jl16, jl30, jl60, jl63, jl64, jl80, jl100, jl120, jl512, jlM, jlm, j_lt, j_le, j_eq, j_add, j_mul, j_div, j_mod, j_sub, j_m1, j_nelt, j_melt, j_nele, j_mele, j_neeq, j_meeq, j_nat, j_bz0, j_bz1, jc_le0, jc_le1, jc_lt0, jc_lt1, jc_eq0, jc_eq1, Nat.not_lt_zero, Nat.zero_le, ne_eq, false_or, or_false, true_or, or_true, not_false_eq_true, not_true_eq_false, ↓reduceIte, Option.bind_some, Nat.add_sub_cancel, Nat.add_sub_cancel_left, reduceCtorEq, Option.some.injEq, Prod.mk.injEq, true_and, and_true, decide_true, decide_false, Bool.true_eq_false, Bool.false_eq_true, Bool.not_eq_true, Bool.not_eq_false]; done))) | (with_reducible refine ifp ?_ ?_; (focus (simp (disch := omega) only [jlo, jl0, jl1, jl2, jl3, jl4, jl5, jl9, jl10, jl12, jl16, jl30, jl60, jl63, jl64, jl80, jl100, jl120, jl512, jlM, jlm, j_lt, j_le, j_eq, j_add, j_mul, j_div, j_mod, j_sub, j_m1, j_nelt, j_melt, j_nele, j_mele, j_neeq, j_meeq, j_nat, j_bz0, j_bz1, jc_le0, jc_le1, jc_lt0, jc_lt1, jc_eq0, jc_eq1, Nat.not_lt_zero, Nat.zero_le, ne_eq, false_or, or_false, true_or, or_true, not_false_eq_true, not_true_eq_false, ↓reduceIte, Option.bind_some, Nat.add_sub_cancel, Nat.add_sub_cancel_left, reduceCtorEq, Option.some.injEq, Prod.mk.injEq, true_and, and_true, decide_true, decide_false, Bool.true_eq_false, Bool.false_eq_true, Bool.not_eq_true, Bool.not_eq_false]; done))) | (with_reducible apply bnd1; (focus ((try simp (disch := omega) only [jlo, jl0, jl1, jl2, jl3, jl4, jl5, jl9, jl10, jl12, jl16, jl30, jl60, jl63, jl64, jl80, jl100, jl120, jl512, jlM, jlm, j_lt, j_le, j_eq, j_add, j_mul, j_div, j_mod, j_sub, j_m1, j_nelt, j_melt, j_nele, j_mele, j_neeq, j_meeq, j_nat, j_bz0, j_bz1, jc_le0, jc_le1, jc_lt0, jc_lt1, jc_eq0, jc_eq1, Nat.not_lt_zero, Nat.zero_le, ne_eq, false_or, or_false, true_or, or_true, not_false_eq_true, not_true_eq_false, ↓reduceIte, Option.bind_some, Nat.add_sub_cancel, Nat.add_sub_cancel_left, reduceCtorEq, Option.some.injEq, Prod.mk.injEq, true_and, and_true, decide_true, decide_false, Bool.true_eq_false, Bool.false_eq_true, Bool.not_eq_true, Bool.not_eq_false]); exact rfl)); with_reducible refine bnd rfl ?_)))
          rfl
        · unfold fm_mark
          (repeat (first | (with_reducible refine ifn ?_ ?_; (focus (simp (disch := omega) only [jlo, jl0, jl1, jl2, jl3, jl4, jl5, jl9, jl10, jl12, jl16, jl30, jl60, jl63, jl64, jl80, jl100, jl120, jl512, jlM, jlm, j_lt, j_le, j_eq, j_add, j_mul, j_div, j_mod, j_sub, j_m1, j_nelt, j_melt, j_nele, j_mele, j_neeq, j_meeq, j_nat, j_bz0, j_bz1, jc_le0, jc_le1, jc_lt0, jc_lt1, jc_eq0, jc_eq1, Nat.not_lt_zero, Nat.zero_le, ne_eq, false_or, or_false, true_or, or_true, not_false_eq_true, not_true_eq_false, ↓reduceIte, Option.bind_some, Nat.add_sub_cancel, Nat.add_sub_cancel_left, reduceCtorEq, Option.some.injEq, Prod.mk.injEq, true_and, and_true, decide_true, decide_false, Bool.true_eq_false, Bool.false_eq_true, Bool.not_eq_true, Bool.not_eq_false, hb2]; done))) | (with_reducible refine ifp ?_ ?_; (focus (simp (disch := omega) only [jlo, jl0, jl1, jl2, jl3, jl4, jl5, jl9, jl10, jl12, jl16, jl30, jl60, jl63, jl64, jl80, jl100, jl120, jl512, jlM, jlm, j_lt, j_le, j_eq, j_add, j_mul, j_div, j_mod, j_sub, j_m1, j_nelt, j_melt, j_nele, j_mele, j_neeq, j_meeq, j_nat, j_bz0, j_bz1, jc_le0, jc_le1, jc_lt0, jc_lt1, jc_eq0, jc_eq1, Nat.not_lt_zero, Nat.zero_le, ne_eq, false_or, or_false, true_or, or_true, not_false_eq_true, not_true_eq_false, ↓reduceIte, Option.bind_some, Nat.add_sub_cancel, Nat.add_sub_cancel_left, reduceCtorEq, Option.some.injEq, Prod.mk.injEq, true_and, and_true, decide_true, decide_false, Bool.true_eq_false, Bool.false_eq_true, Bool.not_eq_true, Bool.not_eq_false, hb2]; done))) | (with_reducible apply bnd1; (focus ((try simp (disch := omega) only [jlo, jl0, jl1, jl2, jl3, jl4, jl5, jl9, jl10, jl12, jl16, jl30, jl60, jl63, jl64, jl80, jl100, jl120, jl512, jlM, jlm, j_lt, j_le, j_eq, j_add, j_mul, j_div, j_mod, j_sub, j_m1, j_nelt, j_melt, j_nele, j_mele, j_neeq, j_meeq, j_nat, j_bz0, j_bz1, jc_le0, jc_le1, jc_lt0, jc_lt1, jc_eq0, jc_eq1, Nat.not_lt_zero, Nat.zero_le, ne_eq, false_or, or_false, true_or, or_true, not_false_eq_true, not_true_eq_false, ↓reduceIte, Option.bind_some, Nat.add_sub_cancel, Nat.add_sub_cancel_left, reduceCtorEq, Option.some.injEq, Prod.mk.injEq, true_and, and_true, decide_true, decide_false, Bool.true_eq_false, Bool.false_eq_true, Bool.not_eq_true, Bool.not_eq_false, hb2]); exact rfl)); with_reducible refine bnd rfl ?_)))
          rfl
theorem b_constants {q : Nat} {N : cN} {C : cC} {P : cP} {T : cT} {G : cG} {H : cH} {B : cB} {ct : Nat → tm} {bo : Nat → Option tm} (h : Iv q N C P T G H B ct bo) (U : cU) : fJ_constants C = some (jn q) ∧ fm_constants G U = some (jn q, jn 0) := by
  obtain ⟨-, -, -, hC, hG, -, -, -⟩ := h
  obtain ⟨ctt, cb, cm⟩ := C
  obtain ⟨gc, gb⟩ := G
  have h1 : cm = jn q := hC.1
  have h2 : gc = jn q := hG
  subst h1 h2
  exact ⟨rfl, rfl⟩
theorem b_terms {q : Nat} {N : cN} {C : cC} {P : cP} {T : cT} {G : cG} {H : cH} {B : cB} {ct : Nat → tm} {bo : Nat → Option tm} (h : Iv q N C P T G H B ct bo) (U : cU) : fJ_terms N = some (jn (nmt N)) ∧ fm_terms T U = some (jn (nmt N), jn 0) := by
  obtain ⟨hN, -, hT, -, -, -, -, -⟩ := h
  refine ⟨?_, ?_⟩
  · have h1 : N.2.2.2.2.2.2.1 = jn (nmt N) := hN.1
    rw [← h1]
    rfl
  · have h1 : T.1 = jn (nmt N) := hT.1
    rw [← h1]
    rfl
theorem b_hasBody {q : Nat} {N : cN} {C : cC} {P : cP} {T : cT} {G : cG} {H : cH} {B : cB} {ct : Nat → tm} {bo : Nat → Option tm} (h : Iv q N C P T G H B ct bo) (U : cU) (p : Int32) : ∃ x, fJ_hasBody C p = some x ∧ fm_hasBody G U p = some (x, jn 0) := by
  obtain ⟨hN, -, -, hC, hG, -, hbo, -⟩ := h
  have hq : q ≤ 16 := hC.2.1
  obtain ⟨gc, gb⟩ := G
  have hG : gc = jn q := hG
  subst hG
  rcases c_there hC p with ⟨c, hc, rfl, h1⟩ | ⟨h1, h2⟩
  · have hb := (c_body hC hc).1
    have hc2 := (hC.2.2 c hc).2
    obtain ⟨-, hb2⟩ := hbo c hc
    rcases hbc : bo c with _ | b
    · rw [hbc] at hc2 hb2
      have hb2 : gb c = jn 0 := hb2
      rw [hc2] at hb
      refine ⟨false, ?_, ?_⟩
      · unfold fJ_hasBody
        exact bnd hb (ifp rfl rfl)
      · unfold fm_hasBody
        (repeat (first | (with_reducible refine ifn ?_ ?_; (focus (simp (disch := omega) only [jlo, jl0, jl1, jl2, jl3, jl4, jl5, jl9, jl10, jl12, jl16, jl30, jl60, jl63, jl64, jl80, jl100, jl120, jl512, jlM, jlm, j_lt, j_le, j_eq, j_add, j_mul, j_div, j_mod, j_sub, j_m1, j_nelt, j_melt, j_nele, j_mele, j_neeq, j_meeq, j_nat, j_bz0, j_bz1, jc_le0, jc_le1, jc_lt0, jc_lt1, jc_eq0, jc_eq1, Nat.not_lt_zero, Nat.zero_le, ne_eq, false_or, or_false, true_or, or_true, not_false_eq_true, not_true_eq_false, ↓reduceIte, Option.bind_some, Nat.add_sub_cancel, Nat.add_sub_cancel_left, reduceCtorEq, Option.some.injEq, Prod.mk.injEq, true_and, and_true, decide_true, decide_false, Bool.true_eq_false, Bool.false_eq_true, Bool.not_eq_true, Bool.not_eq_false, hb2]; done))) | (with_reducible refine ifp ?_ ?_; (focus (simp (disch := omega) only [jlo, jl0, jl1, jl2, jl3, jl4, jl5, jl9, jl10, jl12, jl16, jl30, jl60, jl63, jl64, jl80, jl100, jl120, jl512, jlM, jlm, j_lt, j_le, j_eq, j_add, j_mul, j_div, j_mod, j_sub, j_m1, j_nelt, j_melt, j_nele, j_mele, j_neeq, j_meeq, j_nat, j_bz0, j_bz1, jc_le0, jc_le1, jc_lt0, jc_lt1, jc_eq0, jc_eq1, Nat.not_lt_zero, Nat.zero_le, ne_eq, false_or, or_false, true_or, or_true, not_false_eq_true, not_true_eq_false, ↓reduceIte, Option.bind_some, Nat.add_sub_cancel, Nat.add_sub_cancel_left, reduceCtorEq, Option.some.injEq, Prod.mk.injEq, true_and, and_true, decide_true, decide_false, Bool.true_eq_false, Bool.false_eq_true, Bool.not_eq_true, Bool.not_eq_false, hb2]; done))) | (with_reducible apply bnd1; (focus ((try simp (disch := omega) only [jlo, jl0, jl1, jl2, jl3, jl4, jl5, jl9, jl10, jl12, jl16, jl30, jl60, jl63, jl64, jl80, jl100, jl120, jl512, jlM, jlm, j_lt, j_le, j_eq, j_add, j_mul, j_div, j_mod, j_sub, j_m1, j_nelt, j_melt, j_nele, j_mele, j_neeq, j_meeq, j_nat, j_bz0, j_bz1, jc_le0, jc_le1, jc_lt0, jc_lt1, jc_eq0, jc_eq1, Nat.not_lt_zero, Nat.zero_le, ne_eq, false_or, or_false, true_or, or_true, not_false_eq_true, not_true_eq_false, ↓reduceIte, Option.bind_some, Nat.add_sub_cancel, Nat.add_sub_cancel_left, reduceCtorEq, Option.some.injEq, Prod.mk.injEq, true_and, and_true, decide_true, decide_false, Bool.true_eq_false, Bool.false_eq_true, Bool.not_eq_true, Bool.not_eq_false, hb2]); exact rfl)); with_reducible refine bnd rfl ?_)))
        rfl
    · rw [hbc] at hc2 hb2
      obtain ⟨bp, g1, g2, -⟩ := hc2
      have hb2 : gb c = jn 1 := hb2.1
      rw [g1] at hb
      have hbp := vd_lt (dr_ni hN) (rp_vd g2)
      refine ⟨true, ?_, ?_⟩
      · unfold fJ_hasBody
        refine bnd hb (ifn ?_ rfl)
        rw [show (-1 : Int32) = jng from rfl, j_neeq (by omega)]
        exact fun h => h
      · unfold fm_hasBody
        (repeat (first | (with_reducible refine ifn ?_ ?_; (focus (simp (disch := omega) only [jlo, jl0, jl1, jl2, jl3, jl4, jl5, jl9, jl10, jl12, jl16, jl30, jl60, jl63, jl64, jl80, jl100, jl120, jl512, jlM, jlm, j_lt, j_le, j_eq, j_add, j_mul, j_div, j_mod, j_sub, j_m1, j_nelt, j_melt, j_nele, j_mele, j_neeq, j_meeq, j_nat, j_bz0, j_bz1, jc_le0, jc_le1, jc_lt0, jc_lt1, jc_eq0, jc_eq1, Nat.not_lt_zero, Nat.zero_le, ne_eq, false_or, or_false, true_or, or_true, not_false_eq_true, not_true_eq_false, ↓reduceIte, Option.bind_some, Nat.add_sub_cancel, Nat.add_sub_cancel_left, reduceCtorEq, Option.some.injEq, Prod.mk.injEq, true_and, and_true, decide_true, decide_false, Bool.true_eq_false, Bool.false_eq_true, Bool.not_eq_true, Bool.not_eq_false, hb2]; done))) | (with_reducible refine ifp ?_ ?_; (focus (simp (disch := omega) only [jlo, jl0, jl1, jl2, jl3, jl4, jl5, jl9, jl10, jl12, jl16, jl30, jl60, jl63, jl64, jl80, jl100, jl120, jl512, jlM, jlm, j_lt, j_le, j_eq, j_add, j_mul, j_div, j_mod, j_sub, j_m1, j_nelt, j_melt, j_nele, j_mele, j_neeq, j_meeq, j_nat, j_bz0, j_bz1, jc_le0, jc_le1, jc_lt0, jc_lt1, jc_eq0, jc_eq1, Nat.not_lt_zero, Nat.zero_le, ne_eq, false_or, or_false, true_or, or_true, not_false_eq_true, not_true_eq_false, ↓reduceIte, Option.bind_some, Nat.add_sub_cancel, Nat.add_sub_cancel_left, reduceCtorEq, Option.some.injEq, Prod.mk.injEq, true_and, and_true, decide_true, decide_false, Bool.true_eq_false, Bool.false_eq_true, Bool.not_eq_true, Bool.not_eq_false, hb2]; done))) | (with_reducible apply bnd1; (focus ((try simp (disch := omega) only [jlo, jl0, jl1, jl2, jl3, jl4, jl5, jl9, jl10, jl12, jl16, jl30, jl60, jl63, jl64, jl80, jl100, jl120, jl512, jlM, jlm, j_lt, j_le, j_eq, j_add, j_mul, j_div, j_mod, j_sub, j_m1, j_nelt, j_melt, j_nele, j_mele, j_neeq, j_meeq, j_nat, j_bz0, j_bz1, jc_le0, jc_le1, jc_lt0, jc_lt1, jc_eq0, jc_eq1, Nat.not_lt_zero, Nat.zero_le, ne_eq, false_or, or_false, true_or, or_true, not_false_eq_true, not_true_eq_false, ↓reduceIte, Option.bind_some, Nat.add_sub_cancel, Nat.add_sub_cancel_left, reduceCtorEq, Option.some.injEq, Prod.mk.injEq, true_and, and_true, decide_true, decide_false, Bool.true_eq_false, Bool.false_eq_true, Bool.not_eq_true, Bool.not_eq_false, hb2]); exact rfl)); with_reducible refine bnd rfl ?_)))
        rfl
  · refine ⟨false, ?_, ?_⟩
    · unfold fJ_hasBody fC_bodyAt
      exact bnd (bnd h1 (ifp rfl rfl)) (ifp rfl rfl)
    · unfold fm_hasBody
      by_cases hp : p < 0
      · exact ifp hp rfl
      · rcases j_any p with hp2 | ⟨c, hc, rfl⟩
        · exact absurd hp2 hp
        · have hcq : ¬ c < q := fun hcq => h2 c hcq rfl
          (repeat (first | (with_reducible refine ifn ?_ ?_; (focus (simp (disch := omega) only [jlo, jl0, jl1, jl2, jl3, jl4, jl5, jl9, jl10, jl12, jl16, jl30, jl60, jl63, jl64, jl80, jl100, jl120, jl512, jlM, jlm, j_lt, j_le, j_eq, j_add, j_mul, j_div, j_mod, j_sub, j_m1, j_nelt, j_melt, j_nele, j_mele, j_neeq, j_meeq, j_nat, j_bz0, j_bz1, jc_le0, jc_le1, jc_lt0, jc_lt1, jc_eq0, jc_eq1, Nat.not_lt_zero, Nat.zero_le, ne_eq, false_or, or_false, true_or, or_true, not_false_eq_true, not_true_eq_false, ↓reduceIte, Option.bind_some, Nat.add_sub_cancel, Nat.add_sub_cancel_left, reduceCtorEq, Option.some.injEq, Prod.mk.injEq, true_and, and_true, decide_true, decide_false, Bool.true_eq_false, Bool.false_eq_true, Bool.not_eq_true, Bool.not_eq_false]; done))) | (with_reducible refine ifp ?_ ?_; (focus (simp (disch := omega) only [jlo, jl0, jl1, jl2, jl3, jl4, jl5, jl9, jl10, jl12, jl16, jl30, jl60, jl63, jl64, jl80, jl100, jl120, jl512, jlM, jlm, j_lt, j_le, j_eq, j_add, j_mul, j_div, j_mod, j_sub, j_m1, j_nelt, j_melt, j_nele, j_mele, j_neeq, j_meeq, j_nat, j_bz0, j_bz1, jc_le0, jc_le1, jc_lt0, jc_lt1, jc_eq0, jc_eq1, Nat.not_lt_zero, Nat.zero_le, ne_eq, false_or, or_false, true_or, or_true, not_false_eq_true, not_true_eq_false, ↓reduceIte, Option.bind_some, Nat.add_sub_cancel, Nat.add_sub_cancel_left, reduceCtorEq, Option.some.injEq, Prod.mk.injEq, true_and, and_true, decide_true, decide_false, Bool.true_eq_false, Bool.false_eq_true, Bool.not_eq_true, Bool.not_eq_false]; done))) | (with_reducible apply bnd1; (focus ((try simp (disch := omega) only [jlo, jl0, jl1, jl2, jl3, jl4, jl5, jl9, jl10, jl12, jl16, jl30, jl60, jl63, jl64, jl80, jl100, jl120, jl512, jlM, jlm, j_lt, j_le, j_eq, j_add, j_mul, j_div, j_mod, j_sub, j_m1, j_nelt, j_melt, j_nele, j_mele, j_neeq, j_meeq, j_nat, j_bz0, j_bz1, jc_le0, jc_le1, jc_lt0, jc_lt1, jc_eq0, jc_eq1, Nat.not_lt_zero, Nat.zero_le, ne_eq, false_or, or_false, true_or, or_true, not_false_eq_true, not_true_eq_false, ↓reduceIte, Option.bind_some, Nat.add_sub_cancel, Nat.add_sub_cancel_left, reduceCtorEq, Option.some.injEq, Prod.mk.injEq, true_and, and_true, decide_true, decide_false, Bool.true_eq_false, Bool.false_eq_true, Bool.not_eq_true, Bool.not_eq_false]); exact rfl)); with_reducible refine bnd rfl ?_)))
          rfl
theorem c_kindraw {N : cN} (hN : NI N) {p : Nat} (hv : vd N p) : fN_kindOf N (jn p) = some (N.1 p) := by
  obtain ⟨hp, hp2⟩ := vd_lt hN hv
  obtain ⟨K, L, R, S, D, cap, mt, le, en⟩ := N
  simp only [ncap] at hp
  have hc : cap ≤ 65536 := hN.2.2.2.2.2.2.2.2
  unfold fN_kindOf
  (repeat (first | (with_reducible refine ifn ?_ ?_; (focus (simp (disch := omega) only [jlo, jl0, jl1, jl2, jl3, jl4, jl5, jl9, jl10, jl12, jl16, jl30, jl60, jl63, jl64, jl80, jl100, jl120, jl512, jlM, jlm, j_lt, j_le, j_eq, j_add, j_mul, j_div, j_mod, j_sub, j_m1, j_nelt, j_melt, j_nele, j_mele, j_neeq, j_meeq, j_nat, j_bz0, j_bz1, jc_le0, jc_le1, jc_lt0, jc_lt1, jc_eq0, jc_eq1, Nat.not_lt_zero, Nat.zero_le, ne_eq, false_or, or_false, true_or, or_true, not_false_eq_true, not_true_eq_false, ↓reduceIte, Option.bind_some, Nat.add_sub_cancel, Nat.add_sub_cancel_left, reduceCtorEq, Option.some.injEq, Prod.mk.injEq, true_and, and_true, decide_true, decide_false, Bool.true_eq_false, Bool.false_eq_true, Bool.not_eq_true, Bool.not_eq_false]; done))) | (with_reducible refine ifp ?_ ?_; (focus (simp (disch := omega) only [jlo, jl0, jl1, jl2, jl3, jl4, jl5, jl9, jl10, jl12, jl16, jl30, jl60, jl63, jl64, jl80, jl100, jl120, jl512, jlM, jlm, j_lt, j_le, j_eq, j_add, j_mul, j_div, j_mod, j_sub, j_m1, j_nelt, j_melt, j_nele, j_mele, j_neeq, j_meeq, j_nat, j_bz0, j_bz1, jc_le0, jc_le1, jc_lt0, jc_lt1, jc_eq0, jc_eq1, Nat.not_lt_zero, Nat.zero_le, ne_eq, false_or, or_false, true_or, or_true, not_false_eq_true, not_true_eq_false, ↓reduceIte, Option.bind_some, Nat.add_sub_cancel, Nat.add_sub_cancel_left, reduceCtorEq, Option.some.injEq, Prod.mk.injEq, true_and, and_true, decide_true, decide_false, Bool.true_eq_false, Bool.false_eq_true, Bool.not_eq_true, Bool.not_eq_false]; done))) | (with_reducible apply bnd1; (focus ((try simp (disch := omega) only [jlo, jl0, jl1, jl2, jl3, jl4, jl5, jl9, jl10, jl12, jl16, jl30, jl60, jl63, jl64, jl80, jl100, jl120, jl512, jlM, jlm, j_lt, j_le, j_eq, j_add, j_mul, j_div, j_mod, j_sub, j_m1, j_nelt, j_melt, j_nele, j_mele, j_neeq, j_meeq, j_nat, j_bz0, j_bz1, jc_le0, jc_le1, jc_lt0, jc_lt1, jc_eq0, jc_eq1, Nat.not_lt_zero, Nat.zero_le, ne_eq, false_or, or_false, true_or, or_true, not_false_eq_true, not_true_eq_false, ↓reduceIte, Option.bind_some, Nat.add_sub_cancel, Nat.add_sub_cancel_left, reduceCtorEq, Option.some.injEq, Prod.mk.injEq, true_and, and_true, decide_true, decide_false, Bool.true_eq_false, Bool.false_eq_true, Bool.not_eq_true, Bool.not_eq_false]); exact rfl)); with_reducible refine bnd rfl ?_)))
  simp (disch := omega) only [jlo, jl0, jl1, jl2, jl3, jl4, jl5, jl9, jl10, jl12, jl16, jl30, jl60, jl63, jl64, jl80, jl100, jl120, jl512, jlM, jlm, j_lt, j_le, j_eq, j_add, j_mul, j_div, j_mod, j_sub, j_m1, j_nelt, j_melt, j_nele, j_mele, j_neeq, j_meeq, j_nat, j_bz0, j_bz1, jc_le0, jc_le1, jc_lt0, jc_lt1, jc_eq0, jc_eq1, Nat.not_lt_zero, Nat.zero_le, ne_eq, false_or, or_false, true_or, or_true, not_false_eq_true, not_true_eq_false, ↓reduceIte, Option.bind_some, Nat.add_sub_cancel, Nat.add_sub_cancel_left, reduceCtorEq, Option.some.injEq, Prod.mk.injEq, true_and, and_true, decide_true, decide_false, Bool.true_eq_false, Bool.false_eq_true, Bool.not_eq_true, Bool.not_eq_false]
theorem b_term {q : Nat} {N : cN} {C : cC} {P : cP} {T : cT} {G : cG} {H : cH} {B : cB} {ct : Nat → tm} {bo : Nat → Option tm} (h : Iv q N C P T G H B ct bo) (U : cU) (p w : Int32) : ∃ x, fJ_term N p w = some x ∧ fm_term T U p w = some (x, jn 0) := by
  obtain ⟨hN, -, hT, -, -, -, -, -⟩ := h
  rcases b_is hN hT p with ⟨c1, m1, a, ha, rfl⟩ | ⟨c1, m1, -⟩
  · obtain ⟨⟨e1, e2, e3, e4, e5⟩, -⟩ := hT.2 a ha
    have hv : vd N a := .inl ha
    have k1 := c_kindraw hN hv
    obtain ⟨k2, k3, k4, k5⟩ := c_left hN hv
    have h4 : nmt N ≤ 120 := hN.2.2.2.1
    have hbad : ¬ (jn a < 0 ∨ 120 ≤ (jn a).toNatClampNeg) := by
      rw [jl0, j_lt (by omega) (by omega), j_nat (by omega)]
      omega
    have hn : (jn a).toNatClampNeg = a := j_nat (by omega)
    obtain ⟨te, tk, ta, tb, tn, td⟩ := T
    have e1 : tk a = N.1 a := e1
    have e2 : ta a = N.2.1 a := e2
    have e3 : tb a = N.2.2.1 a := e3
    have e4 : tn a = N.2.2.2.1 a := e4
    have e5 : td a = N.2.2.2.2.1 a := e5
    by_cases w0 : w = 0
    · refine ⟨N.1 a, ?_, ?_⟩
      · unfold fJ_term
        exact bnd c1 (ifp (by decide) (ifp w0 (bnd k1 rfl)))
      · unfold fm_term
        refine bnd m1 (ifp (by decide) (ifp w0 (ifn hbad ?_)))
        rw [hn, e1]
        rfl
    by_cases w1 : w = 1
    · refine ⟨N.2.1 a, ?_, ?_⟩
      · unfold fJ_term
        exact bnd c1 (ifp (by decide) (ifn w0 (ifp w1 (bnd k2 rfl))))
      · unfold fm_term
        refine bnd m1 (ifp (by decide) (ifn w0 (ifp w1 (ifn hbad ?_))))
        rw [hn, e2]
        rfl
    by_cases w2 : w = 2
    · refine ⟨N.2.2.1 a, ?_, ?_⟩
      · unfold fJ_term
        exact bnd c1 (ifp (by decide) (ifn w0 (ifn w1 (ifp w2 (bnd k3 rfl)))))
      · unfold fm_term
        refine bnd m1 (ifp (by decide) (ifn w0 (ifn w1 (ifp w2 (ifn hbad ?_)))))
        rw [hn, e3]
        rfl
    by_cases w3 : w = 3
    · refine ⟨N.2.2.2.1 a, ?_, ?_⟩
      · unfold fJ_term
        exact bnd c1 (ifp (by decide) (ifn w0 (ifn w1 (ifn w2 (ifp w3 (bnd k4 rfl))))))
      · unfold fm_term
        refine bnd m1 (ifp (by decide) (ifn w0 (ifn w1 (ifn w2 (ifp w3 (ifn hbad ?_))))))
        rw [hn, e4]
        rfl
    by_cases w4 : w = 4
    · refine ⟨N.2.2.2.2.1 a, ?_, ?_⟩
      · unfold fJ_term
        exact bnd c1 (ifp (by decide) (ifn w0 (ifn w1 (ifn w2 (ifn w3 (ifp w4 (bnd k5 rfl)))))))
      · unfold fm_term
        refine bnd m1 (ifp (by decide) (ifn w0 (ifn w1 (ifn w2 (ifn w3 (ifp w4 (ifn hbad ?_)))))))
        rw [hn, e5]
        rfl
    · refine ⟨-1, ?_, ?_⟩
      · unfold fJ_term
        exact bnd c1 (ifp (by decide) (ifn w0 (ifn w1 (ifn w2 (ifn w3 (ifn w4 rfl))))))
      · unfold fm_term
        exact bnd m1 (ifp (by decide) (ifn w0 (ifn w1 (ifn w2 (ifn w3 (ifn w4 rfl))))))
  · refine ⟨-1, ?_, ?_⟩
    · unfold fJ_term
      exact bnd c1 (ifn (by decide) rfl)
    · unfold fm_term
      exact bnd m1 (ifn (by decide) rfl)
