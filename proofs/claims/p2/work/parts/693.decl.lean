/-! ===== declare and define ===== -/
theorem c_full {q : Nat} {N : cN} {C : cC} {ct : Nat → tm} {bo : Nat → Option tm} (h : CI q N C ct bo) : fC_isFull C = some (decide (16 ≤ q)) := by
  obtain ⟨ctt, cb, cm⟩ := C
  have h1 : cm = jn q := h.1
  have h2 := h.2.1
  subst h1
  unfold fC_isFull
  by_cases hq : q < 16
  · rw [decide_eq_false (by omega)]
    (repeat (first | (with_reducible refine ifn ?_ ?_; (focus (simp (disch := omega) only [jlo, jl0, jl1, jl2, jl3, jl4, jl5, jl9, jl10, jl12, jl16, jl30, jl60, jl63, jl64, jl80, jl100, jl120, jl512, jlM, jlm, j_lt, j_le, j_eq, j_add, j_mul, j_div, j_mod, j_sub, j_m1, j_nelt, j_melt, j_nele, j_mele, j_neeq, j_meeq, j_nat, j_bz0, j_bz1, jc_le0, jc_le1, jc_lt0, jc_lt1, jc_eq0, jc_eq1, Nat.not_lt_zero, Nat.zero_le, ne_eq, false_or, or_false, true_or, or_true, not_false_eq_true, not_true_eq_false, ↓reduceIte, Option.bind_some, Nat.add_sub_cancel, Nat.add_sub_cancel_left, reduceCtorEq, Option.some.injEq, Prod.mk.injEq, true_and, and_true, decide_true, decide_false, Bool.true_eq_false, Bool.false_eq_true, Bool.not_eq_true, Bool.not_eq_false]; done))) | (with_reducible refine ifp ?_ ?_; (focus (simp (disch := omega) only [jlo, jl0, jl1, jl2, jl3, jl4, jl5, jl9, jl10, jl12, jl16, jl30, jl60, jl63, jl64, jl80, jl100, jl120, jl512, jlM, jlm, j_lt, j_le, j_eq, j_add, j_mul, j_div, j_mod, j_sub, j_m1, j_nelt, j_melt, j_nele, j_mele, j_neeq, j_meeq, j_nat, j_bz0, j_bz1, jc_le0, jc_le1, jc_lt0, jc_lt1, jc_eq0, jc_eq1, Nat.not_lt_zero, Nat.zero_le, ne_eq, false_or, or_false, true_or, or_true, not_false_eq_true, not_true_eq_false, ↓reduceIte, Option.bind_some, Nat.add_sub_cancel, Nat.add_sub_cancel_left, reduceCtorEq, Option.some.injEq, Prod.mk.injEq, true_and, and_true, decide_true, decide_false, Bool.true_eq_false, Bool.false_eq_true, Bool.not_eq_true, Bool.not_eq_false]; done))) | (with_reducible apply bnd1; (focus ((try simp (disch := omega) only [jlo, jl0, jl1, jl2, jl3, jl4, jl5, jl9, jl10, jl12, jl16, jl30, jl60, jl63, jl64, jl80, jl100, jl120, jl512, jlM, jlm, j_lt, j_le, j_eq, j_add, j_mul, j_div, j_mod, j_sub, j_m1, j_nelt, j_melt, j_nele, j_mele, j_neeq, j_meeq, j_nat, j_bz0, j_bz1, jc_le0, jc_le1, jc_lt0, jc_lt1, jc_eq0, jc_eq1, Nat.not_lt_zero, Nat.zero_le, ne_eq, false_or, or_false, true_or, or_true, not_false_eq_true, not_true_eq_false, ↓reduceIte, Option.bind_some, Nat.add_sub_cancel, Nat.add_sub_cancel_left, reduceCtorEq, Option.some.injEq, Prod.mk.injEq, true_and, and_true, decide_true, decide_false, Bool.true_eq_false, Bool.false_eq_true, Bool.not_eq_true, Bool.not_eq_false]); exact rfl)); with_reducible refine bnd rfl ?_)))
    rfl
  · rw [decide_eq_true (by omega)]
    (repeat (first | (with_reducible refine ifn ?_ ?_; (focus (simp (disch := omega) only [jlo, jl0, jl1, jl2, jl3, jl4, jl5, jl9, jl10, jl12, jl16, jl30, jl60, jl63, jl64, jl80, jl100, jl120, jl512, jlM, jlm, j_lt, j_le, j_eq, j_add, j_mul, j_div, j_mod, j_sub, j_m1, j_nelt, j_melt, j_nele, j_mele, j_neeq, j_meeq, j_nat, j_bz0, j_bz1, jc_le0, jc_le1, jc_lt0, jc_lt1, jc_eq0, jc_eq1, Nat.not_lt_zero, Nat.zero_le, ne_eq, false_or, or_false, true_or, or_true, not_false_eq_true, not_true_eq_false, ↓reduceIte, Option.bind_some, Nat.add_sub_cancel, Nat.add_sub_cancel_left, reduceCtorEq, Option.some.injEq, Prod.mk.injEq, true_and, and_true, decide_true, decide_false, Bool.true_eq_false, Bool.false_eq_true, Bool.not_eq_true, Bool.not_eq_false]; done))) | (with_reducible refine ifp ?_ ?_; (focus (simp (disch := omega) only [jlo, jl0, jl1, jl2, jl3, jl4, jl5, jl9, jl10, jl12, jl16, jl30, jl60, jl63, jl64, jl80, jl100, jl120, jl512, jlM, jlm, j_lt, j_le, j_eq, j_add, j_mul, j_div, j_mod, j_sub, j_m1, j_nelt, j_melt, j_nele, j_mele, j_neeq, j_meeq, j_nat, j_bz0, j_bz1, jc_le0, jc_le1, jc_lt0, jc_lt1, jc_eq0, jc_eq1, Nat.not_lt_zero, Nat.zero_le, ne_eq, false_or, or_false, true_or, or_true, not_false_eq_true, not_true_eq_false, ↓reduceIte, Option.bind_some, Nat.add_sub_cancel, Nat.add_sub_cancel_left, reduceCtorEq, Option.some.injEq, Prod.mk.injEq, true_and, and_true, decide_true, decide_false, Bool.true_eq_false, Bool.false_eq_true, Bool.not_eq_true, Bool.not_eq_false]; done))) | (with_reducible apply bnd1; (focus ((try simp (disch := omega) only [jlo, jl0, jl1, jl2, jl3, jl4, jl5, jl9, jl10, jl12, jl16, jl30, jl60, jl63, jl64, jl80, jl100, jl120, jl512, jlM, jlm, j_lt, j_le, j_eq, j_add, j_mul, j_div, j_mod, j_sub, j_m1, j_nelt, j_melt, j_nele, j_mele, j_neeq, j_meeq, j_nat, j_bz0, j_bz1, jc_le0, jc_le1, jc_lt0, jc_lt1, jc_eq0, jc_eq1, Nat.not_lt_zero, Nat.zero_le, ne_eq, false_or, or_false, true_or, or_true, not_false_eq_true, not_true_eq_false, ↓reduceIte, Option.bind_some, Nat.add_sub_cancel, Nat.add_sub_cancel_left, reduceCtorEq, Option.some.injEq, Prod.mk.injEq, true_and, and_true, decide_true, decide_false, Bool.true_eq_false, Bool.false_eq_true, Bool.not_eq_true, Bool.not_eq_false]); exact rfl)); with_reducible refine bnd rfl ?_)))
    rfl
theorem c_cadd {q : Nat} {N : cN} {C : cC} {ct : Nat → tm} {bo : Nat → Option tm} (h : CI q N C ct bo) (hq : q < 16) (p1 p2 : Int32) : fC_add C p1 p2 = some (jn q, (upd C.1 q p1, upd C.2.1 q p2, jn (q + 1))) := by
  obtain ⟨ctt, cb, cm⟩ := C
  have h1 : cm = jn q := h.1
  subst h1
  unfold fC_add
  (repeat (first | (with_reducible refine ifn ?_ ?_; (focus (simp (disch := omega) only [jlo, jl0, jl1, jl2, jl3, jl4, jl5, jl9, jl10, jl12, jl16, jl30, jl60, jl63, jl64, jl80, jl100, jl120, jl512, jlM, jlm, j_lt, j_le, j_eq, j_add, j_mul, j_div, j_mod, j_sub, j_m1, j_nelt, j_melt, j_nele, j_mele, j_neeq, j_meeq, j_nat, j_bz0, j_bz1, jc_le0, jc_le1, jc_lt0, jc_lt1, jc_eq0, jc_eq1, Nat.not_lt_zero, Nat.zero_le, ne_eq, false_or, or_false, true_or, or_true, not_false_eq_true, not_true_eq_false, ↓reduceIte, Option.bind_some, Nat.add_sub_cancel, Nat.add_sub_cancel_left, reduceCtorEq, Option.some.injEq, Prod.mk.injEq, true_and, and_true, decide_true, decide_false, Bool.true_eq_false, Bool.false_eq_true, Bool.not_eq_true, Bool.not_eq_false]; done))) | (with_reducible refine ifp ?_ ?_; (focus (simp (disch := omega) only [jlo, jl0, jl1, jl2, jl3, jl4, jl5, jl9, jl10, jl12, jl16, jl30, jl60, jl63, jl64, jl80, jl100, jl120, jl512, jlM, jlm, j_lt, j_le, j_eq, j_add, j_mul, j_div, j_mod, j_sub, j_m1, j_nelt, j_melt, j_nele, j_mele, j_neeq, j_meeq, j_nat, j_bz0, j_bz1, jc_le0, jc_le1, jc_lt0, jc_lt1, jc_eq0, jc_eq1, Nat.not_lt_zero, Nat.zero_le, ne_eq, false_or, or_false, true_or, or_true, not_false_eq_true, not_true_eq_false, ↓reduceIte, Option.bind_some, Nat.add_sub_cancel, Nat.add_sub_cancel_left, reduceCtorEq, Option.some.injEq, Prod.mk.injEq, true_and, and_true, decide_true, decide_false, Bool.true_eq_false, Bool.false_eq_true, Bool.not_eq_true, Bool.not_eq_false]; done))) | (with_reducible apply bnd1; (focus ((try simp (disch := omega) only [jlo, jl0, jl1, jl2, jl3, jl4, jl5, jl9, jl10, jl12, jl16, jl30, jl60, jl63, jl64, jl80, jl100, jl120, jl512, jlM, jlm, j_lt, j_le, j_eq, j_add, j_mul, j_div, j_mod, j_sub, j_m1, j_nelt, j_melt, j_nele, j_mele, j_neeq, j_meeq, j_nat, j_bz0, j_bz1, jc_le0, jc_le1, jc_lt0, jc_lt1, jc_eq0, jc_eq1, Nat.not_lt_zero, Nat.zero_le, ne_eq, false_or, or_false, true_or, or_true, not_false_eq_true, not_true_eq_false, ↓reduceIte, Option.bind_some, Nat.add_sub_cancel, Nat.add_sub_cancel_left, reduceCtorEq, Option.some.injEq, Prod.mk.injEq, true_and, and_true, decide_true, decide_false, Bool.true_eq_false, Bool.false_eq_true, Bool.not_eq_true, Bool.not_eq_false]); exact rfl)); with_reducible refine bnd rfl ?_)))
  simp (disch := omega) only [jlo, jl0, jl1, jl2, jl3, jl4, jl5, jl9, jl10, jl12, jl16, jl30, jl60, jl63, jl64, jl80, jl100, jl120, jl512, jlM, jlm, j_lt, j_le, j_eq, j_add, j_mul, j_div, j_mod, j_sub, j_m1, j_nelt, j_melt, j_nele, j_mele, j_neeq, j_meeq, j_nat, j_bz0, j_bz1, jc_le0, jc_le1, jc_lt0, jc_lt1, jc_eq0, jc_eq1, Nat.not_lt_zero, Nat.zero_le, ne_eq, false_or, or_false, true_or, or_true, not_false_eq_true, not_true_eq_false, ↓reduceIte, Option.bind_some, Nat.add_sub_cancel, Nat.add_sub_cancel_left, reduceCtorEq, Option.some.injEq, Prod.mk.injEq, true_and, and_true, decide_true, decide_false, Bool.true_eq_false, Bool.false_eq_true, Bool.not_eq_true, Bool.not_eq_false]
def xt (q : Nat) (R : tm) (ct : Nat → tm) : Nat → tm := fun c => if c = q then R else ct c
def xb (q : Nat) (b : Option tm) (bo : Nat → Option tm) : Nat → Option tm := fun c => if c = q then b else bo c
theorem iv_new {q : Nat} {N9 : cN} {C : cC} {P : cP} {T : cT} {gc : Int32} {gb : Nat → Int32} {H : cH} {B B' : cB} {ct : Nat → tm} {bo : Nat → Option tm} {R : tm} {ob : Option tm} {bv x : Int32} {tp : Nat} (hq : q < 16) (hN : NI N9) (hle : nle N9 ≤ 120 + 60 * (q + 1)) (hT : TT q (dr N9) T) (hC : CI q (dr N9) C ct bo) (hty : Typ q B ct) (hbo : Bod q (gc, gb) B bo) (hrs : Rs q P H B)
    (hR : Rp (dr N9) tp R) (hRk : okt 9 q 10 R) (h60 : sz R ≤ 60) (hd : dp R ≤ 12) (hrow : Row B' (64 + q) R)
    (hob : match ob with
      | some b => (∃ bp, bv = jn bp ∧ Rp (dr N9) bp b) ∧ Row B' (80 + q) b ∧ sz b ≤ 60 ∧ dp b ≤ 12 ∧ okt 10 q 10 b ∧ x = jn 1
      | none => bv = jng ∧ x = jn 0)
    (hs : ∀ ρ, (ρ = 2 ∨ (64 ≤ ρ ∧ ρ ≠ 64 + q ∧ ρ ≠ 80 + q)) → Sm B B' ρ) :
    Iv (q + 1) N9 (upd C.1 q (jn tp), upd C.2.1 q bv, jn (q + 1)) P T (jn (q + 1), upd gb q x) H B' (xt q R ct) (xb q ob bo) := by
  refine ⟨hN, hle, tt_q (Nat.le_succ q) hT, ⟨rfl, hq, fun c hc => ?_⟩, rfl, fun c hc => ?_, fun c hc => ?_, ?_⟩
  · by_cases hcq : c = q
    · subst hcq
      refine ⟨⟨tp, if_pos rfl, by unfold xt; rw [if_pos rfl]; exact hR⟩, ?_⟩
      unfold xb
      rw [if_pos rfl]
      cases ob with
      | none => exact (if_pos rfl : upd C.2.1 c bv c = bv).trans hob.1
      | some b =>
        obtain ⟨⟨bp, g1, g2⟩, g3, g4, g5, g6, g7⟩ := hob
        exact ⟨bp, (if_pos rfl : upd C.2.1 c bv c = bv).trans g1, g2, g4, g5, okt_mono (Nat.le_refl 10) (Nat.le_succ c) b (Nat.le_refl 10) g6⟩
    · obtain ⟨⟨tp', g1, g2⟩, g3⟩ := hC.2.2 c (by omega)
      refine ⟨⟨tp', (if_neg hcq : upd C.1 q (jn tp) c = C.1 c).trans g1, by unfold xt; rw [if_neg hcq]; exact g2⟩, ?_⟩
      unfold xb
      rw [if_neg hcq]
      split
      · rename_i b e
        rw [e] at g3
        obtain ⟨bp, x1, x2, x3, x4, x5⟩ := g3
        exact ⟨bp, (if_neg hcq : upd C.2.1 q bv c = C.2.1 c).trans x1, x2, x3, x4, okt_mono (Nat.le_refl 10) (Nat.le_succ q) b (Nat.le_refl 10) x5⟩
      · rename_i e
        rw [e] at g3
        exact (if_neg hcq : upd C.2.1 q bv c = C.2.1 c).trans g3
  · by_cases hcq : c = q
    · subst hcq
      unfold xt
      rw [if_pos rfl]
      exact ⟨hrow, h60, hd, okt_mono (Nat.le_refl 9) (Nat.le_succ c) R (Nat.le_refl 10) hRk⟩
    · unfold xt
      rw [if_neg hcq]
      obtain ⟨g1, g2, g3, g4⟩ := hty c (by omega)
      exact ⟨row_sm g2 (hs _ (by omega)) g1, g2, g3, okt_mono (Nat.le_refl 9) (Nat.le_succ q) _ (Nat.le_refl 10) g4⟩
  · refine ⟨by omega, ?_⟩
    by_cases hcq : c = q
    · subst hcq
      unfold xb
      rw [if_pos rfl]
      cases ob with
      | none => exact (if_pos rfl : upd gb c x c = x).trans hob.2
      | some b =>
        obtain ⟨⟨bp, g1, g2⟩, g3, g4, g5, g6, g7⟩ := hob
        exact ⟨(if_pos rfl : upd gb c x c = x).trans g7, g3, g4, g5, okt_mono (Nat.le_refl 10) (Nat.le_succ c) b (Nat.le_refl 10) g6⟩
    · unfold xb
      rw [if_neg hcq]
      obtain ⟨g0, g3⟩ := hbo c (by omega)
      split
      · rename_i b e
        rw [e] at g3
        obtain ⟨x1, x2, x3, x4, x5⟩ := g3
        exact ⟨(if_neg hcq : upd gb q x c = gb c).trans x1, row_sm x3 (hs _ (by omega)) x2, x3, x4, okt_mono (Nat.le_refl 10) (Nat.le_succ q) b (Nat.le_refl 10) x5⟩
      · rename_i e
        rw [e] at g3
        exact (if_neg hcq : upd gb q x c = gb c).trans g3
  · rcases hrs with h | ⟨h1, t, h2, h3, h4, h5, h6, h7⟩
    · exact .inl h
    · exact .inr ⟨h1, t, okt_mono (Nat.le_refl 10) (Nat.le_succ q) t (Nat.le_refl 10) h2, h3, h4, h5, h6, row_sm h3 (hs 2 (.inl rfl)) h7⟩
theorem b_declare {fl d q : Nat} (hfl : 10000 ≤ fl) (hd : 100 ≤ d) {N : cN} {C : cC} {P : cP} {T : cT} {G : cG} {H : cH} {B : cB} {ct : Nat → tm} {bo : Nat → Option tm} (h : Iv q N C P T G H B ct bo) (E : cE) (F : cF) (k n : Nat) (U : cU) (O : cO) (J : cJ) (V : cV) (Y : cY) (Z : cZ) (p1 p2 : Int32) :
    ∃ x N' C' E' F' k' n' y G' U' B' O' J' V' Y' Z' q' ct' bo', fJ_declare fl d N C E F k n p1 p2 = some (x, N', C', E', F', (k', n')) ∧ fm_declare fl T G U B O J V Y Z p1 p2 = some (y, G', U', B', O', J', V', Y', Z') ∧ Iv q' N' C' P T G' H B' ct' bo' ∧ Rc x y U' ∧ Co N N' k n k' n' := by
  have hiv := h
  obtain ⟨hN, hle, hT, hC, hG, hty, hbo, hrs⟩ := h
  have hq : q ≤ 16 := hC.2.1
  have hen : nen (dr N) = nle N := rfl
  have hnc : ncap (dr N) = ncap N := rfl
  have hfull := c_full hC
  obtain ⟨gc, gb⟩ := G
  have hG : gc = jn q := hG
  subst hG
  by_cases hq16 : q = 16
  · subst hq16
    refine ⟨.inl (-1), N, C, (E.1, E.2.1, E.2.2.1, 0, 0), F, k, n, -1, (jn 16, gb), jn 0, B, O, J, V, Y, Z, 16, ct, bo, ?_, ?_, hiv, ⟨rfl, rfl⟩, by unfold Co; omega⟩
    · unfold fJ_declare
      exact bnd hfull (ifn (by decide) (bnd rfl rfl))
    · unfold fm_declare
      exact ifn (by decide) rfl
  · have hfull : fC_isFull C = some false := by rw [hfull, decide_eq_false (by omega)]
    have hg16 : jn q ≠ (16 : Int32) := by
      rw [jl16, ne_eq, j_eq (by omega) (by omega)]
      exact hq16
    rcases b_begin hN hT E F k n 0 V p1 p1 p2 with ⟨c1, m1⟩ | ⟨a, a2, f, rfl, -, rfl, ha, -, hf, c1, m1⟩
    · refine ⟨.inr 0, N, C, E, F, k + 1, n + 6, 0, (jn q, gb), jn 1, B, O, J, V, Y, Z, q, ct, bo, ?_, ?_, hiv, ⟨by omega, rfl⟩, by unfold Co; omega⟩
      · unfold fJ_declare
        exact bnd hfull (ifp rfl (bnd c1 rfl))
      · unfold fm_declare
        exact ifp hg16 (bnd m1 (ifn (by decide) rfl))
    · obtain ⟨B1, J1, l1, hL⟩ := b_level hfl hd hiv hf ha E F k n O J Y Z
      rcases hL with ⟨e, N', k', j', E', F', B', O', J', u', Y', Z', he, c2, m2, st, sm⟩ | ⟨N1, k1, j1, fi, se, op, tt, p, f1, B2, O2, J2, Y2, Z2, c2, m2, hL⟩
      · refine ⟨.inr (e - 1), N', C, E', F', k' + 1, j' + 6, 0, (jn q, gb), jn e, B', O', J', (jn f, u', jn e), Y', Z', q, ct, bo, ?_, ?_, iv_step hiv st.1 st.2.1 sm, ⟨by omega, ?_⟩, ?_⟩
        · unfold fJ_declare
          exact bnd hfull (ifp rfl (bnd c1 (bnd c2 rfl)))
        · unfold fm_declare
          exact ifp hg16 (bnd m1 (ifp (by decide) (bnd l1 (bnd m2 (ifp (b_e1 he) (ifn (b_e1 he) (bnd rfl rfl)))))))
        · show jn e = jn (e - 1 + 1)
          rw [show e - 1 + 1 = e by omega]
        · obtain ⟨-, -, s3, s4⟩ := st
          unfold Co
          omega
      · rcases hL with ⟨e, N', k', j', E', x, B', O', J', u', he, c3, m3, st, sm⟩ | ⟨l, f2, N', k', j', B', O', J', c3, m3, st, hf2, hcost, sm⟩
        · refine ⟨.inr (e - 1), N', C, E', (tt, jn ([] : List tm).length), k' + 1, j' + 6, 0, (jn q, gb), jn e, B', O', J', (jn f, u', jn e), Y2, Z2, q, ct, bo, ?_, ?_, iv_step hiv st.1 st.2.1 sm, ⟨by omega, ?_⟩, ?_⟩
          · unfold fJ_declare
            exact bnd hfull (ifp rfl (bnd c1 (bnd c2 (bnd c3 rfl))))
          · unfold fm_declare
            exact ifp hg16 (bnd m1 (ifp (by decide) (bnd l1 (bnd m2 (ifn (by decide) (bnd m3 (ifn (b_e1 he) (bnd rfl rfl))))))))
          · show jn e = jn (e - 1 + 1)
            rw [show e - 1 + 1 = e by omega]
          · obtain ⟨-, -, s3, s4⟩ := st
            unfold Co
            omega
        · obtain ⟨t, ht, htr, htk, ht60, htd⟩ := tt_get hT ha
          obtain ⟨B4, J4, l4, r4, s4⟩ := b_load hfl hq hN htr htk ht60 htd (r := 64 + q) (by omega) B' J'
          have hx := dr_dr st.2.1
          have hadd := c_cadd hC (by omega) (jn a) (-1)
          rw [← j_add] at l4
          refine ⟨.inl (jn q), N', _, (fi, se, op, jn f, jn (f - f2)), (tt, jn ([] : List tm).length), k', j', jn q, (jn (q + 1), upd gb q 0), jn 0, B4, O', J4, (jn f, jn (f - f2), jn 0), Y2, Z2, q + 1, xt q t ct, xb q none bo, ?_, ?_, iv_new (by omega) st.1 ?_ (tt_ex hx hT) (ci_ex hx hC) hty hbo hrs (rp_ex hx t ht) htk ht60 htd r4 ⟨rfl, rfl⟩ (fun ρ hρ => sm_trans (sm ρ (by omega)) (s4 ρ (by omega))), ⟨rfl, rfl⟩, ?_⟩
          · unfold fJ_declare
            exact bnd hfull (ifp rfl (bnd c1 (bnd c2 (bnd c3 (bnd hadd rfl)))))
          · unfold fm_declare
            refine ifp hg16 (bnd m1 (ifp (by decide) (bnd l1 (bnd m2 (ifn (by decide) (bnd m3 (ifp rfl (bnd l4 (ifn ?_ ?_)))))))))
            · rw [jl0, j_lt (by omega) (by omega), j_nat (by omega)]
              omega
            · simp (disch := omega) only [jlo, jl0, jl1, jl2, jl3, jl4, jl5, jl9, jl10, jl12, jl16, jl30, jl60, jl63, jl64, jl80, jl100, jl120, jl512, jlM, jlm, j_lt, j_le, j_eq, j_add, j_mul, j_div, j_mod, j_sub, j_m1, j_nelt, j_melt, j_nele, j_mele, j_neeq, j_meeq, j_nat, j_bz0, j_bz1, jc_le0, jc_le1, jc_lt0, jc_lt1, jc_eq0, jc_eq1, Nat.not_lt_zero, Nat.zero_le, ne_eq, false_or, or_false, true_or, or_true, not_false_eq_true, not_true_eq_false, ↓reduceIte, Option.bind_some, Nat.add_sub_cancel, Nat.add_sub_cancel_left, reduceCtorEq, Option.some.injEq, Prod.mk.injEq, true_and, and_true, decide_true, decide_false, Bool.true_eq_false, Bool.false_eq_true, Bool.not_eq_true, Bool.not_eq_false]
          · have : nle N' = nle N := st.2.1.2.1
            omega
          · obtain ⟨-, -, s3, s4⟩ := st
            unfold Co
            omega
