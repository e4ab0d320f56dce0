/-! ===== every call on a new object, on both sides ===== -/
theorem z_neg {p : Int32} (h : p < jn 0) {m : Nat} (hm : m < 2147483648) : p ≠ jn m := by
  intro e
  rw [e, j_lt hm (by omega)] at h
  omega
theorem z_N (p : Int32) : fN_isTerm N0i p = some false := by
  rcases j_any p with hp | ⟨n, hn, rfl⟩
  · unfold fN_isTerm
    exact if_pos hp
  · unfold fN_isTerm N0i
    (repeat (first | (with_reducible refine ifn ?_ ?_; (focus (simp (disch := omega) only [jlo, jl0, jl1, jl2, jl3, jl4, jl5, jl9, jl10, jl12, jl16, jl30, jl60, jl63, jl64, jl80, jl100, jl120, jl512, jlM, jlm, j_lt, j_le, j_eq, j_add, j_mul, j_div, j_mod, j_sub, j_m1, j_nelt, j_melt, j_nele, j_mele, j_neeq, j_meeq, j_nat, j_bz0, j_bz1, jc_le0, jc_le1, jc_lt0, jc_lt1, jc_eq0, jc_eq1, Nat.not_lt_zero, Nat.zero_le, ne_eq, false_or, or_false, true_or, or_true, not_false_eq_true, not_true_eq_false, ↓reduceIte, Option.bind_some, Nat.add_sub_cancel, Nat.add_sub_cancel_left, reduceCtorEq, Option.some.injEq, Prod.mk.injEq, true_and, and_true, decide_true, decide_false, Bool.true_eq_false, Bool.false_eq_true, Bool.not_eq_true, Bool.not_eq_false]; done))) | (with_reducible refine ifp ?_ ?_; (focus (simp (disch := omega) only [jlo, jl0, jl1, jl2, jl3, jl4, jl5, jl9, jl10, jl12, jl16, jl30, jl60, jl63, jl64, jl80, jl100, jl120, jl512, jlM, jlm, j_lt, j_le, j_eq, j_add, j_mul, j_div, j_mod, j_sub, j_m1, j_nelt, j_melt, j_nele, j_mele, j_neeq, j_meeq, j_nat, j_bz0, j_bz1, jc_le0, jc_le1, jc_lt0, jc_lt1, jc_eq0, jc_eq1, Nat.not_lt_zero, Nat.zero_le, ne_eq, false_or, or_false, true_or, or_true, not_false_eq_true, not_true_eq_false, ↓reduceIte, Option.bind_some, Nat.add_sub_cancel, Nat.add_sub_cancel_left, reduceCtorEq, Option.some.injEq, Prod.mk.injEq, true_and, and_true, decide_true, decide_false, Bool.true_eq_false, Bool.false_eq_true, Bool.not_eq_true, Bool.not_eq_false]; done))) | (with_reducible apply bnd1; (focus ((try simp (disch := omega) only [jlo, jl0, jl1, jl2, jl3, jl4, jl5, jl9, jl10, jl12, jl16, jl30, jl60, jl63, jl64, jl80, jl100, jl120, jl512, jlM, jlm, j_lt, j_le, j_eq, j_add, j_mul, j_div, j_mod, j_sub, j_m1, j_nelt, j_melt, j_nele, j_mele, j_neeq, j_meeq, j_nat, j_bz0, j_bz1, jc_le0, jc_le1, jc_lt0, jc_lt1, jc_eq0, jc_eq1, Nat.not_lt_zero, Nat.zero_le, ne_eq, false_or, or_false, true_or, or_true, not_false_eq_true, not_true_eq_false, ↓reduceIte, Option.bind_some, Nat.add_sub_cancel, Nat.add_sub_cancel_left, reduceCtorEq, Option.some.injEq, Prod.mk.injEq, true_and, and_true, decide_true, decide_false, Bool.true_eq_false, Bool.false_eq_true, Bool.not_eq_true, Bool.not_eq_false]); exact rfl)); with_reducible refine bnd rfl ?_)))
    rfl
theorem z_T (p : Int32) : fm_isTerm T0i p = some false := by
  rcases j_any p with hp | ⟨n, hn, rfl⟩
  · unfold fm_isTerm
    exact if_pos hp
  · unfold fm_isTerm T0i
    (repeat (first | (with_reducible refine ifn ?_ ?_; (focus (simp (disch := omega) only [jlo, jl0, jl1, jl2, jl3, jl4, jl5, jl9, jl10, jl12, jl16, jl30, jl60, jl63, jl64, jl80, jl100, jl120, jl512, jlM, jlm, j_lt, j_le, j_eq, j_add, j_mul, j_div, j_mod, j_sub, j_m1, j_nelt, j_melt, j_nele, j_mele, j_neeq, j_meeq, j_nat, j_bz0, j_bz1, jc_le0, jc_le1, jc_lt0, jc_lt1, jc_eq0, jc_eq1, Nat.not_lt_zero, Nat.zero_le, ne_eq, false_or, or_false, true_or, or_true, not_false_eq_true, not_true_eq_false, ↓reduceIte, Option.bind_some, Nat.add_sub_cancel, Nat.add_sub_cancel_left, reduceCtorEq, Option.some.injEq, Prod.mk.injEq, true_and, and_true, decide_true, decide_false, Bool.true_eq_false, Bool.false_eq_true, Bool.not_eq_true, Bool.not_eq_false]; done))) | (with_reducible refine ifp ?_ ?_; (focus (simp (disch := omega) only [jlo, jl0, jl1, jl2, jl3, jl4, jl5, jl9, jl10, jl12, jl16, jl30, jl60, jl63, jl64, jl80, jl100, jl120, jl512, jlM, jlm, j_lt, j_le, j_eq, j_add, j_mul, j_div, j_mod, j_sub, j_m1, j_nelt, j_melt, j_nele, j_mele, j_neeq, j_meeq, j_nat, j_bz0, j_bz1, jc_le0, jc_le1, jc_lt0, jc_lt1, jc_eq0, jc_eq1, Nat.not_lt_zero, Nat.zero_le, ne_eq, false_or, or_false, true_or, or_true, not_false_eq_true, not_true_eq_false, ↓reduceIte, Option.bind_some, Nat.add_sub_cancel, Nat.add_sub_cancel_left, reduceCtorEq, Option.some.injEq, Prod.mk.injEq, true_and, and_true, decide_true, decide_false, Bool.true_eq_false, Bool.false_eq_true, Bool.not_eq_true, Bool.not_eq_false]; done))) | (with_reducible apply bnd1; (focus ((try simp (disch := omega) only [jlo, jl0, jl1, jl2, jl3, jl4, jl5, jl9, jl10, jl12, jl16, jl30, jl60, jl63, jl64, jl80, jl100, jl120, jl512, jlM, jlm, j_lt, j_le, j_eq, j_add, j_mul, j_div, j_mod, j_sub, j_m1, j_nelt, j_melt, j_nele, j_mele, j_neeq, j_meeq, j_nat, j_bz0, j_bz1, jc_le0, jc_le1, jc_lt0, jc_lt1, jc_eq0, jc_eq1, Nat.not_lt_zero, Nat.zero_le, ne_eq, false_or, or_false, true_or, or_true, not_false_eq_true, not_true_eq_false, ↓reduceIte, Option.bind_some, Nat.add_sub_cancel, Nat.add_sub_cancel_left, reduceCtorEq, Option.some.injEq, Prod.mk.injEq, true_and, and_true, decide_true, decide_false, Bool.true_eq_false, Bool.false_eq_true, Bool.not_eq_true, Bool.not_eq_false]); exact rfl)); with_reducible refine bnd rfl ?_)))
    rfl
theorem z_C (p : Int32) : fC_isThere C0i p = some false := by
  rcases j_any p with hp | ⟨n, hn, rfl⟩
  · unfold fC_isThere
    exact if_pos hp
  · unfold fC_isThere C0i
    (repeat (first | (with_reducible refine ifn ?_ ?_; (focus (simp (disch := omega) only [jlo, jl0, jl1, jl2, jl3, jl4, jl5, jl9, jl10, jl12, jl16, jl30, jl60, jl63, jl64, jl80, jl100, jl120, jl512, jlM, jlm, j_lt, j_le, j_eq, j_add, j_mul, j_div, j_mod, j_sub, j_m1, j_nelt, j_melt, j_nele, j_mele, j_neeq, j_meeq, j_nat, j_bz0, j_bz1, jc_le0, jc_le1, jc_lt0, jc_lt1, jc_eq0, jc_eq1, Nat.not_lt_zero, Nat.zero_le, ne_eq, false_or, or_false, true_or, or_true, not_false_eq_true, not_true_eq_false, ↓reduceIte, Option.bind_some, Nat.add_sub_cancel, Nat.add_sub_cancel_left, reduceCtorEq, Option.some.injEq, Prod.mk.injEq, true_and, and_true, decide_true, decide_false, Bool.true_eq_false, Bool.false_eq_true, Bool.not_eq_true, Bool.not_eq_false]; done))) | (with_reducible refine ifp ?_ ?_; (focus (simp (disch := omega) only [jlo, jl0, jl1, jl2, jl3, jl4, jl5, jl9, jl10, jl12, jl16, jl30, jl60, jl63, jl64, jl80, jl100, jl120, jl512, jlM, jlm, j_lt, j_le, j_eq, j_add, j_mul, j_div, j_mod, j_sub, j_m1, j_nelt, j_melt, j_nele, j_mele, j_neeq, j_meeq, j_nat, j_bz0, j_bz1, jc_le0, jc_le1, jc_lt0, jc_lt1, jc_eq0, jc_eq1, Nat.not_lt_zero, Nat.zero_le, ne_eq, false_or, or_false, true_or, or_true, not_false_eq_true, not_true_eq_false, ↓reduceIte, Option.bind_some, Nat.add_sub_cancel, Nat.add_sub_cancel_left, reduceCtorEq, Option.some.injEq, Prod.mk.injEq, true_and, and_true, decide_true, decide_false, Bool.true_eq_false, Bool.false_eq_true, Bool.not_eq_true, Bool.not_eq_false]; done))) | (with_reducible apply bnd1; (focus ((try simp (disch := omega) only [jlo, jl0, jl1, jl2, jl3, jl4, jl5, jl9, jl10, jl12, jl16, jl30, jl60, jl63, jl64, jl80, jl100, jl120, jl512, jlM, jlm, j_lt, j_le, j_eq, j_add, j_mul, j_div, j_mod, j_sub, j_m1, j_nelt, j_melt, j_nele, j_mele, j_neeq, j_meeq, j_nat, j_bz0, j_bz1, jc_le0, jc_le1, jc_lt0, jc_lt1, jc_eq0, jc_eq1, Nat.not_lt_zero, Nat.zero_le, ne_eq, false_or, or_false, true_or, or_true, not_false_eq_true, not_true_eq_false, ↓reduceIte, Option.bind_some, Nat.add_sub_cancel, Nat.add_sub_cancel_left, reduceCtorEq, Option.some.injEq, Prod.mk.injEq, true_and, and_true, decide_true, decide_false, Bool.true_eq_false, Bool.false_eq_true, Bool.not_eq_true, Bool.not_eq_false]); exact rfl)); with_reducible refine bnd rfl ?_)))
    rfl
theorem z_begin (p q r : Int32) (k n : Nat) : fJ_begin N0i E0i F0i k n p q r = some (.inr 0, N0i, E0i, F0i, (k + 1, n + 6)) := by
  unfold fJ_begin
  rw [z_N]
  rfl
theorem z_starts (V : cV) (p q r : Int32) : fm_starts T0i U0i V p q r = some (false, 1, V) := by
  unfold fm_starts
  rw [z_T]
  rfl
theorem z_inferL (O9 : cO9) (k n : Nat) (p q : Int32) : fL_infer N0i E0i F0i O9 k n p q = some (1, N0i, E0i, F0i, O9, (k + 1, n + 6)) := by
  unfold fL_infer fJ_infer
  rw [z_begin]
  rfl
theorem z_reduceL (O9 : cO9) (k n : Nat) (p q : Int32) : fL_reduce N0i E0i F0i O9 k n p q = some (1, N0i, E0i, F0i, O9, (k + 1, n + 6)) := by
  unfold fL_reduce fJ_reduce
  rw [z_begin]
  rfl
theorem z_sameL (O9 : cO9) (k n : Nat) (p q r : Int32) : fL_same N0i E0i F0i O9 k n p q r = some (1, N0i, E0i, F0i, O9, (k + 1, n + 6)) := by
  unfold fL_same fJ_same
  rw [z_begin]
  rfl
theorem z_checkL (O9 : cO9) (k n : Nat) (p q r : Int32) : fL_check N0i E0i F0i O9 k n p q r = some (1, N0i, E0i, F0i, O9, (k + 1, n + 6)) := by
  unfold fL_check fJ_check
  rw [z_begin]
  rfl
theorem z_full : fC_isFull C0i = some false := rfl
theorem z_declareL (O9 : cO9) (k n : Nat) (p q : Int32) : fL_declare N0i C0i E0i F0i O9 k n p q = some (1, N0i, E0i, F0i, O9, (k + 1, n + 6)) := by
  unfold fL_declare fJ_declare
  rw [z_full]
  refine bnd (bnd rfl (ifp rfl (bnd (z_begin _ _ _ _ _) rfl))) rfl
theorem z_defineL (O9 : cO9) (k n : Nat) (p q : Int32) : fL_define N0i C0i E0i F0i O9 k n p q = some (1, N0i, E0i, F0i, O9, (k + 1, n + 6)) := by
  unfold fL_define fJ_define
  rw [z_full]
  refine bnd (bnd rfl (ifp rfl (bnd (z_begin _ _ _ _ _) rfl))) rfl
theorem z_inferM (p q : Int32) : fm_infer T0i U0i V0i p q = some (0, 1, V0i) := by
  unfold fm_infer
  rw [z_starts]
  rfl
theorem z_reduceM (p q : Int32) : fm_reduce T0i U0i V0i p q = some (0, 1, V0i) := by
  unfold fm_reduce
  rw [z_starts]
  rfl
theorem z_sameM (p q r : Int32) : fm_same T0i U0i V0i p q r = some (false, 1, V0i) := by
  unfold fm_same
  rw [z_starts]
  rfl
theorem z_checkM (p q r : Int32) : fm_check T0i U0i V0i p q r = some (false, 1, V0i) := by
  unfold fm_check
  rw [z_starts]
  rfl
theorem z_declareM (p q : Int32) : fm_declare T0i G0i U0i V0i p q = some (0, 1, V0i) := by
  unfold fm_declare
  refine ifp (by decide) (bnd (z_starts _ _ _ _) rfl)
theorem z_defineM (fl : Nat) (p q : Int32) : fm_define fl T0i G0i U0i V0i p q = some (0, 1, V0i) := by
  unfold fm_define
  refine ifp (by decide) (bnd (z_starts _ _ _ _) rfl)
theorem z_termN (p q : Int32) : fJ_term N0i p q = some (-1) := by
  unfold fJ_term
  rw [z_N]
  rfl
theorem z_termT (p q : Int32) : fm_term T0i U0i p q = some (-1, 0) := by
  unfold fm_term
  rw [z_T]
  rfl
theorem z_bodyC (p : Int32) : fJ_hasBody C0i p = some false := by
  unfold fJ_hasBody fC_bodyAt
  rw [z_C]
  rfl
theorem z_bodyG (p : Int32) : fm_hasBody G0i U0i p = some (false, 0) := by
  rcases j_any p with hp | ⟨n, hn, rfl⟩
  · unfold fm_hasBody
    exact if_pos hp
  · unfold fm_hasBody G0i
    (repeat (first | (with_reducible refine ifn ?_ ?_; (focus (simp (disch := omega) only [jlo, jl0, jl1, jl2, jl3, jl4, jl5, jl9, jl10, jl12, jl16, jl30, jl60, jl63, jl64, jl80, jl100, jl120, jl512, jlM, jlm, j_lt, j_le, j_eq, j_add, j_mul, j_div, j_mod, j_sub, j_m1, j_nelt, j_melt, j_nele, j_mele, j_neeq, j_meeq, j_nat, j_bz0, j_bz1, jc_le0, jc_le1, jc_lt0, jc_lt1, jc_eq0, jc_eq1, Nat.not_lt_zero, Nat.zero_le, ne_eq, false_or, or_false, true_or, or_true, not_false_eq_true, not_true_eq_false, ↓reduceIte, Option.bind_some, Nat.add_sub_cancel, Nat.add_sub_cancel_left, reduceCtorEq, Option.some.injEq, Prod.mk.injEq, true_and, and_true, decide_true, decide_false, Bool.true_eq_false, Bool.false_eq_true, Bool.not_eq_true, Bool.not_eq_false]; done))) | (with_reducible refine ifp ?_ ?_; (focus (simp (disch := omega) only [jlo, jl0, jl1, jl2, jl3, jl4, jl5, jl9, jl10, jl12, jl16, jl30, jl60, jl63, jl64, jl80, jl100, jl120, jl512, jlM, jlm, j_lt, j_le, j_eq, j_add, j_mul, j_div, j_mod, j_sub, j_m1, j_nelt, j_melt, j_nele, j_mele, j_neeq, j_meeq, j_nat, j_bz0, j_bz1, jc_le0, jc_le1, jc_lt0, jc_lt1, jc_eq0, jc_eq1, Nat.not_lt_zero, Nat.zero_le, ne_eq, false_or, or_false, true_or, or_true, not_false_eq_true, not_true_eq_false, ↓reduceIte, Option.bind_some, Nat.add_sub_cancel, Nat.add_sub_cancel_left, reduceCtorEq, Option.some.injEq, Prod.mk.injEq, true_and, and_true, decide_true, decide_false, Bool.true_eq_false, Bool.false_eq_true, Bool.not_eq_true, Bool.not_eq_false]; done))) | (with_reducible apply bnd1; (focus ((try simp (disch := omega) only [jlo, jl0, jl1, jl2, jl3, jl4, jl5, jl9, jl10, jl12, jl16, jl30, jl60, jl63, jl64, jl80, jl100, jl120, jl512, jlM, jlm, j_lt, j_le, j_eq, j_add, j_mul, j_div, j_mod, j_sub, j_m1, j_nelt, j_melt, j_nele, j_mele, j_neeq, j_meeq, j_nat, j_bz0, j_bz1, jc_le0, jc_le1, jc_lt0, jc_lt1, jc_eq0, jc_eq1, Nat.not_lt_zero, Nat.zero_le, ne_eq, false_or, or_false, true_or, or_true, not_false_eq_true, not_true_eq_false, ↓reduceIte, Option.bind_some, Nat.add_sub_cancel, Nat.add_sub_cancel_left, reduceCtorEq, Option.some.injEq, Prod.mk.injEq, true_and, and_true, decide_true, decide_false, Bool.true_eq_false, Bool.false_eq_true, Bool.not_eq_true, Bool.not_eq_false]); exact rfl)); with_reducible refine bnd rfl ?_)))
    rfl
theorem z_typeC (p : Int32) : fJ_typeOf C0i p = some (-1) := by
  unfold fJ_typeOf
  rw [z_C]
  rfl
theorem z_typeG (p : Int32) : fm_typeOf G0i U0i p = some (-1, 0) := by
  rcases j_any p with hp | ⟨n, hn, rfl⟩
  · unfold fm_typeOf
    exact if_pos hp
  · unfold fm_typeOf G0i
    (repeat (first | (with_reducible refine ifn ?_ ?_; (focus (simp (disch := omega) only [jlo, jl0, jl1, jl2, jl3, jl4, jl5, jl9, jl10, jl12, jl16, jl30, jl60, jl63, jl64, jl80, jl100, jl120, jl512, jlM, jlm, j_lt, j_le, j_eq, j_add, j_mul, j_div, j_mod, j_sub, j_m1, j_nelt, j_melt, j_nele, j_mele, j_neeq, j_meeq, j_nat, j_bz0, j_bz1, jc_le0, jc_le1, jc_lt0, jc_lt1, jc_eq0, jc_eq1, Nat.not_lt_zero, Nat.zero_le, ne_eq, false_or, or_false, true_or, or_true, not_false_eq_true, not_true_eq_false, ↓reduceIte, Option.bind_some, Nat.add_sub_cancel, Nat.add_sub_cancel_left, reduceCtorEq, Option.some.injEq, Prod.mk.injEq, true_and, and_true, decide_true, decide_false, Bool.true_eq_false, Bool.false_eq_true, Bool.not_eq_true, Bool.not_eq_false]; done))) | (with_reducible refine ifp ?_ ?_; (focus (simp (disch := omega) only [jlo, jl0, jl1, jl2, jl3, jl4, jl5, jl9, jl10, jl12, jl16, jl30, jl60, jl63, jl64, jl80, jl100, jl120, jl512, jlM, jlm, j_lt, j_le, j_eq, j_add, j_mul, j_div, j_mod, j_sub, j_m1, j_nelt, j_melt, j_nele, j_mele, j_neeq, j_meeq, j_nat, j_bz0, j_bz1, jc_le0, jc_le1, jc_lt0, jc_lt1, jc_eq0, jc_eq1, Nat.not_lt_zero, Nat.zero_le, ne_eq, false_or, or_false, true_or, or_true, not_false_eq_true, not_true_eq_false, ↓reduceIte, Option.bind_some, Nat.add_sub_cancel, Nat.add_sub_cancel_left, reduceCtorEq, Option.some.injEq, Prod.mk.injEq, true_and, and_true, decide_true, decide_false, Bool.true_eq_false, Bool.false_eq_true, Bool.not_eq_true, Bool.not_eq_false]; done))) | (with_reducible apply bnd1; (focus ((try simp (disch := omega) only [jlo, jl0, jl1, jl2, jl3, jl4, jl5, jl9, jl10, jl12, jl16, jl30, jl60, jl63, jl64, jl80, jl100, jl120, jl512, jlM, jlm, j_lt, j_le, j_eq, j_add, j_mul, j_div, j_mod, j_sub, j_m1, j_nelt, j_melt, j_nele, j_mele, j_neeq, j_meeq, j_nat, j_bz0, j_bz1, jc_le0, jc_le1, jc_lt0, jc_lt1, jc_eq0, jc_eq1, Nat.not_lt_zero, Nat.zero_le, ne_eq, false_or, or_false, true_or, or_true, not_false_eq_true, not_true_eq_false, ↓reduceIte, Option.bind_some, Nat.add_sub_cancel, Nat.add_sub_cancel_left, reduceCtorEq, Option.some.injEq, Prod.mk.injEq, true_and, and_true, decide_true, decide_false, Bool.true_eq_false, Bool.false_eq_true, Bool.not_eq_true, Bool.not_eq_false]); exact rfl)); with_reducible refine bnd rfl ?_)))
    rfl
theorem z_markP (p : Int32) : fJ_mark P0i p = some (-1) := by
  unfold fJ_mark
  refine bnd (a := -1) ?_ rfl
  rcases j_any p with hp | ⟨n, hn, rfl⟩
  · unfold fM_at_P
    exact if_pos hp
  · unfold fM_at_P P0i
    (repeat (first | (with_reducible refine ifn ?_ ?_; (focus (simp (disch := omega) only [jlo, jl0, jl1, jl2, jl3, jl4, jl5, jl9, jl10, jl12, jl16, jl30, jl60, jl63, jl64, jl80, jl100, jl120, jl512, jlM, jlm, j_lt, j_le, j_eq, j_add, j_mul, j_div, j_mod, j_sub, j_m1, j_nelt, j_melt, j_nele, j_mele, j_neeq, j_meeq, j_nat, j_bz0, j_bz1, jc_le0, jc_le1, jc_lt0, jc_lt1, jc_eq0, jc_eq1, Nat.not_lt_zero, Nat.zero_le, ne_eq, false_or, or_false, true_or, or_true, not_false_eq_true, not_true_eq_false, ↓reduceIte, Option.bind_some, Nat.add_sub_cancel, Nat.add_sub_cancel_left, reduceCtorEq, Option.some.injEq, Prod.mk.injEq, true_and, and_true, decide_true, decide_false, Bool.true_eq_false, Bool.false_eq_true, Bool.not_eq_true, Bool.not_eq_false]; done))) | (with_reducible refine ifp ?_ ?_; (focus (simp (disch := omega) only [jlo, jl0, jl1, jl2, jl3, jl4, jl5, jl9, jl10, jl12, jl16, jl30, jl60, jl63, jl64, jl80, jl100, jl120, jl512, jlM, jlm, j_lt, j_le, j_eq, j_add, j_mul, j_div, j_mod, j_sub, j_m1, j_nelt, j_melt, j_nele, j_mele, j_neeq, j_meeq, j_nat, j_bz0, j_bz1, jc_le0, jc_le1, jc_lt0, jc_lt1, jc_eq0, jc_eq1, Nat.not_lt_zero, Nat.zero_le, ne_eq, false_or, or_false, true_or, or_true, not_false_eq_true, not_true_eq_false, ↓reduceIte, Option.bind_some, Nat.add_sub_cancel, Nat.add_sub_cancel_left, reduceCtorEq, Option.some.injEq, Prod.mk.injEq, true_and, and_true, decide_true, decide_false, Bool.true_eq_false, Bool.false_eq_true, Bool.not_eq_true, Bool.not_eq_false]; done))) | (with_reducible apply bnd1; (focus ((try simp (disch := omega) only [jlo, jl0, jl1, jl2, jl3, jl4, jl5, jl9, jl10, jl12, jl16, jl30, jl60, jl63, jl64, jl80, jl100, jl120, jl512, jlM, jlm, j_lt, j_le, j_eq, j_add, j_mul, j_div, j_mod, j_sub, j_m1, j_nelt, j_melt, j_nele, j_mele, j_neeq, j_meeq, j_nat, j_bz0, j_bz1, jc_le0, jc_le1, jc_lt0, jc_lt1, jc_eq0, jc_eq1, Nat.not_lt_zero, Nat.zero_le, ne_eq, false_or, or_false, true_or, or_true, not_false_eq_true, not_true_eq_false, ↓reduceIte, Option.bind_some, Nat.add_sub_cancel, Nat.add_sub_cancel_left, reduceCtorEq, Option.some.injEq, Prod.mk.injEq, true_and, and_true, decide_true, decide_false, Bool.true_eq_false, Bool.false_eq_true, Bool.not_eq_true, Bool.not_eq_false]); exact rfl)); with_reducible refine bnd rfl ?_)))
    rfl
theorem z_markM (p : Int32) : fm_mark U0i H0i B0i p = some (-1, 0) := if_pos rfl
theorem z_hasNo {p : Int32} (h2 : p ≠ 2) (h3 : p ≠ 3) (h4 : p ≠ 4) : fJ_hasParts p = some false := by
  unfold fJ_hasParts
  exact ifn h2 (ifn h3 (ifp h4 rfl))
theorem z_noKind {p q r : Int32} (h0 : p ≠ 0) (h1 : p ≠ 1) (h2 : p ≠ 2) (h3 : p ≠ 3) (h4 : p ≠ 4) (h5 : p ≠ 5) : fJ_make N0i C0i p q r = some (-1, N0i) := by
  unfold fJ_make fJ_mayBeMade
  refine bnd (ifn h0 (ifp h1 (ifp h5 (bnd (z_hasNo h2 h3 h4) (ifp rfl rfl))))) (ifn (by decide) rfl)
theorem z_parts {p q r : Int32} (h0 : p ≠ 0) (h1 : p ≠ 1) (h5 : p ≠ 5) (hp : fJ_hasParts p = some true) : fJ_make N0i C0i p q r = some (-1, N0i) := by
  unfold fJ_make fJ_mayBeMade
  refine bnd (ifn h0 (ifp h1 (ifp h5 (bnd hp (ifn (by decide) (bnd (z_N q) (ifp rfl rfl))))))) (ifn (by decide) rfl)
theorem z_const {q r : Int32} : fJ_make N0i C0i 5 q r = some (-1, N0i) := by
  unfold fJ_make fJ_mayBeMade
  refine bnd (ifn (by decide) (ifp (by decide) (ifn (by decide) (bnd (z_C q) rfl)))) (ifn (by decide) rfl)
theorem z_signN {p q r : Int32} (h0 : p = 0 ∨ p = 1) (hq : q < 0 ∨ 9 < q) : fJ_make N0i C0i p q r = some (-1, N0i) := by
  have hm : fJ_mayBeMade N0i C0i p q r = some false := by
    unfold fJ_mayBeMade
    rcases h0 with rfl | rfl
    · refine ifp rfl ?_
      rcases hq with hq | hq
      · exact ifp hq rfl
      · by_cases h : q < 0
        · exact ifp h rfl
        · exact ifn h (ifp hq rfl)
    · refine ifn (by decide) (ifn (by decide) ?_)
      rcases hq with hq | hq
      · exact ifp hq rfl
      · by_cases h : q < 0
        · exact ifp h rfl
        · exact ifn h (ifp hq rfl)
  unfold fJ_make
  exact bnd hm (ifn (by decide) rfl)
theorem z_fill (p q : Int32) : ∃ N', fN_addTerm N0i p q (-1) = some (0, N') := by
  refine ⟨(upd (fun _ => 0) (0 : Int32).toNatClampNeg p, upd (fun _ => 0) (0 : Int32).toNatClampNeg q, upd (fun _ => 0) (0 : Int32).toNatClampNeg (-1), upd (fun _ => 0) (0 : Int32).toNatClampNeg 1, upd (fun _ => 0) (0 : Int32).toNatClampNeg 1, 512, (0 + 1), 120, 120), ?_⟩
  unfold fN_addTerm N0i
  refine ifp (by decide) (bnd (a := (upd (fun _ => 0) (0 : Int32).toNatClampNeg p, upd (fun _ => 0) (0 : Int32).toNatClampNeg q, upd (fun _ => 0) (0 : Int32).toNatClampNeg (-1), upd (fun _ => 0) (0 : Int32).toNatClampNeg 1, upd (fun _ => 0) (0 : Int32).toNatClampNeg 1, 512, 0, 120, 120)) ?_ rfl)
  unfold fN_fill
  refine ifn (by decide) (ifp (by decide) (ifn (by decide) (ifn (by decide) (ifn (by decide) (ifn (by decide) (ifn (by decide) (ifp rfl rfl)))))))
theorem z_signY {p q r : Int32} (h0 : p = 0 ∨ p = 1) (h1 : ¬ q < 0) (h9 : ¬ 9 < q) : ∃ N', fJ_make N0i C0i p q r = some (0, N') := by
  have hm : fJ_mayBeMade N0i C0i p q r = some true := by
    unfold fJ_mayBeMade
    rcases h0 with rfl | rfl
    · exact ifp rfl (ifn h1 (ifn h9 rfl))
    · exact ifn (by decide) (ifn (by decide) (ifn h1 (ifn h9 rfl)))
  obtain ⟨N', hN⟩ := z_fill p q
  refine ⟨N', ?_⟩
  unfold fJ_make
  refine bnd hm (ifp (by decide) (bnd (z_hasNo ?_ ?_ ?_) (ifp rfl (bnd hN rfl)))) <;> rcases h0 with rfl | rfl <;> decide
theorem z_mneg {p q r : Int32} (hp : p < 0) : fm_make T0i G0i U0i p q r = some (-1, T0i, 0) := by
  unfold fm_make
  exact ifp hp rfl
theorem z_mbig {p q r : Int32} (h : ¬ p < 0) (hp : 5 < p) : fm_make T0i G0i U0i p q r = some (-1, T0i, 0) := by
  unfold fm_make
  exact ifn h (ifp hp rfl)
theorem z_mparts {p q r : Int32} (h : p = 2 ∨ p = 3 ∨ p = 4) : fm_make T0i G0i U0i p q r = some (-1, T0i, 0) := by
  unfold fm_make
  rcases h with rfl | rfl | rfl <;> refine ifn (by decide) (ifn (by decide) (ifp (by decide) (ifp (by decide) (ifp (by decide) ?_)))) <;>
  · rcases j_any q with hq | ⟨n, hn, rfl⟩
    · exact ifp hq rfl
    · unfold T0i
      (repeat (first | (with_reducible refine ifn ?_ ?_; (focus (simp (disch := omega) only [jlo, jl0, jl1, jl2, jl3, jl4, jl5, jl9, jl10, jl12, jl16, jl30, jl60, jl63, jl64, jl80, jl100, jl120, jl512, jlM, jlm, j_lt, j_le, j_eq, j_add, j_mul, j_div, j_mod, j_sub, j_m1, j_nelt, j_melt, j_nele, j_mele, j_neeq, j_meeq, j_nat, j_bz0, j_bz1, jc_le0, jc_le1, jc_lt0, jc_lt1, jc_eq0, jc_eq1, Nat.not_lt_zero, Nat.zero_le, ne_eq, false_or, or_false, true_or, or_true, not_false_eq_true, not_true_eq_false, ↓reduceIte, Option.bind_some, Nat.add_sub_cancel, Nat.add_sub_cancel_left, reduceCtorEq, Option.some.injEq, Prod.mk.injEq, true_and, and_true, decide_true, decide_false, Bool.true_eq_false, Bool.false_eq_true, Bool.not_eq_true, Bool.not_eq_false]; done))) | (with_reducible refine ifp ?_ ?_; (focus (simp (disch := omega) only [jlo, jl0, jl1, jl2, jl3, jl4, jl5, jl9, jl10, jl12, jl16, jl30, jl60, jl63, jl64, jl80, jl100, jl120, jl512, jlM, jlm, j_lt, j_le, j_eq, j_add, j_mul, j_div, j_mod, j_sub, j_m1, j_nelt, j_melt, j_nele, j_mele, j_neeq, j_meeq, j_nat, j_bz0, j_bz1, jc_le0, jc_le1, jc_lt0, jc_lt1, jc_eq0, jc_eq1, Nat.not_lt_zero, Nat.zero_le, ne_eq, false_or, or_false, true_or, or_true, not_false_eq_true, not_true_eq_false, ↓reduceIte, Option.bind_some, Nat.add_sub_cancel, Nat.add_sub_cancel_left, reduceCtorEq, Option.some.injEq, Prod.mk.injEq, true_and, and_true, decide_true, decide_false, Bool.true_eq_false, Bool.false_eq_true, Bool.not_eq_true, Bool.not_eq_false]; done))) | (with_reducible apply bnd1; (focus ((try simp (disch := omega) only [jlo, jl0, jl1, jl2, jl3, jl4, jl5, jl9, jl10, jl12, jl16, jl30, jl60, jl63, jl64, jl80, jl100, jl120, jl512, jlM, jlm, j_lt, j_le, j_eq, j_add, j_mul, j_div, j_mod, j_sub, j_m1, j_nelt, j_melt, j_nele, j_mele, j_neeq, j_meeq, j_nat, j_bz0, j_bz1, jc_le0, jc_le1, jc_lt0, jc_lt1, jc_eq0, jc_eq1, Nat.not_lt_zero, Nat.zero_le, ne_eq, false_or, or_false, true_or, or_true, not_false_eq_true, not_true_eq_false, ↓reduceIte, Option.bind_some, Nat.add_sub_cancel, Nat.add_sub_cancel_left, reduceCtorEq, Option.some.injEq, Prod.mk.injEq, true_and, and_true, decide_true, decide_false, Bool.true_eq_false, Bool.false_eq_true, Bool.not_eq_true, Bool.not_eq_false]); exact rfl)); with_reducible refine bnd rfl ?_)))
      rfl
theorem z_mconst {q r : Int32} : fm_make T0i G0i U0i 5 q r = some (-1, T0i, 0) := by
  unfold fm_make
  refine ifn (by decide) (ifn (by decide) (ifp (by decide) (ifp (by decide) (ifn (by decide) ?_))))
  rcases j_any q with hq | ⟨n, hn, rfl⟩
  · exact ifp hq rfl
  · unfold T0i G0i
    (repeat (first | (with_reducible refine ifn ?_ ?_; (focus (simp (disch := omega) only [jlo, jl0, jl1, jl2, jl3, jl4, jl5, jl9, jl10, jl12, jl16, jl30, jl60, jl63, jl64, jl80, jl100, jl120, jl512, jlM, jlm, j_lt, j_le, j_eq, j_add, j_mul, j_div, j_mod, j_sub, j_m1, j_nelt, j_melt, j_nele, j_mele, j_neeq, j_meeq, j_nat, j_bz0, j_bz1, jc_le0, jc_le1, jc_lt0, jc_lt1, jc_eq0, jc_eq1, Nat.not_lt_zero, Nat.zero_le, ne_eq, false_or, or_false, true_or, or_true, not_false_eq_true, not_true_eq_false, ↓reduceIte, Option.bind_some, Nat.add_sub_cancel, Nat.add_sub_cancel_left, reduceCtorEq, Option.some.injEq, Prod.mk.injEq, true_and, and_true, decide_true, decide_false, Bool.true_eq_false, Bool.false_eq_true, Bool.not_eq_true, Bool.not_eq_false]; done))) | (with_reducible refine ifp ?_ ?_; (focus (simp (disch := omega) only [jlo, jl0, jl1, jl2, jl3, jl4, jl5, jl9, jl10, jl12, jl16, jl30, jl60, jl63, jl64, jl80, jl100, jl120, jl512, jlM, jlm, j_lt, j_le, j_eq, j_add, j_mul, j_div, j_mod, j_sub, j_m1, j_nelt, j_melt, j_nele, j_mele, j_neeq, j_meeq, j_nat, j_bz0, j_bz1, jc_le0, jc_le1, jc_lt0, jc_lt1, jc_eq0, jc_eq1, Nat.not_lt_zero, Nat.zero_le, ne_eq, false_or, or_false, true_or, or_true, not_false_eq_true, not_true_eq_false, ↓reduceIte, Option.bind_some, Nat.add_sub_cancel, Nat.add_sub_cancel_left, reduceCtorEq, Option.some.injEq, Prod.mk.injEq, true_and, and_true, decide_true, decide_false, Bool.true_eq_false, Bool.false_eq_true, Bool.not_eq_true, Bool.not_eq_false]; done))) | (with_reducible apply bnd1; (focus ((try simp (disch := omega) only [jlo, jl0, jl1, jl2, jl3, jl4, jl5, jl9, jl10, jl12, jl16, jl30, jl60, jl63, jl64, jl80, jl100, jl120, jl512, jlM, jlm, j_lt, j_le, j_eq, j_add, j_mul, j_div, j_mod, j_sub, j_m1, j_nelt, j_melt, j_nele, j_mele, j_neeq, j_meeq, j_nat, j_bz0, j_bz1, jc_le0, jc_le1, jc_lt0, jc_lt1, jc_eq0, jc_eq1, Nat.not_lt_zero, Nat.zero_le, ne_eq, false_or, or_false, true_or, or_true, not_false_eq_true, not_true_eq_false, ↓reduceIte, Option.bind_some, Nat.add_sub_cancel, Nat.add_sub_cancel_left, reduceCtorEq, Option.some.injEq, Prod.mk.injEq, true_and, and_true, decide_true, decide_false, Bool.true_eq_false, Bool.false_eq_true, Bool.not_eq_true, Bool.not_eq_false]); exact rfl)); with_reducible refine bnd rfl ?_)))
    rfl
theorem z_msignN {p q r : Int32} (h0 : p = 0 ∨ p = 1) (hq : q < 0 ∨ 9 < q) : fm_make T0i G0i U0i p q r = some (-1, T0i, 0) := by
  have h : (if q < 0 then some ((-1 : Int32), T0i, (0 : Int32)) else if q ≤ (9 : Int32) then none else some ((-1 : Int32), T0i, (0 : Int32))) = some (-1, T0i, 0) := by
    rcases hq with hq | hq
    · exact ifp hq rfl
    · by_cases h : q < 0
      · exact ifp h rfl
      · exact ifn h (ifn (Int32.not_le.mpr hq) rfl)
  by_cases hn : q < 0
  · unfold fm_make
    rcases h0 with rfl | rfl <;> exact ifn (by decide) (ifn (by decide) (ifp (by decide) (ifn (by decide) (ifp hn rfl))))
  · have hb := hq.resolve_left hn
    unfold fm_make
    rcases h0 with rfl | rfl <;> exact ifn (by decide) (ifn (by decide) (ifp (by decide) (ifn (by decide) (ifn hn (ifn (Int32.not_le.mpr hb) rfl)))))
theorem z_msignY {p q r : Int32} (h0 : p = 0 ∨ p = 1) (h1 : ¬ q < 0) (h9 : ¬ 9 < q) : ∃ T', fm_make T0i G0i U0i p q r = some (0, T', 0) := by
  rcases h0 with rfl | rfl
  · refine Exists.intro ?w1 ?h1
    case h1 =>
      unfold fm_make T0i
      refine ifn (by decide) (ifn (by decide) (ifp (by decide) (ifn (by decide) (ifn h1 (ifp (Int32.not_lt.mp h9) (ifn (by decide) (ifp (by decide) (ifn (by decide) (ifn (by decide) (ifp (by decide) (ifn (by decide) (ifn (by decide) (ifn (by decide) ?_)))))))))))))
      rfl
  · refine Exists.intro ?w2 ?h2
    case h2 =>
      unfold fm_make T0i
      refine ifn (by decide) (ifn (by decide) (ifp (by decide) (ifn (by decide) (ifn h1 (ifp (Int32.not_lt.mp h9) (ifn (by decide) (ifp (by decide) (ifn (by decide) (ifn (by decide) (ifp (by decide) (ifn (by decide) (ifn (by decide) (ifn (by decide) ?_)))))))))))))
      rfl
theorem z_make (p q r : Int32) : ∃ v N' T', fJ_make N0i C0i p q r = some (v, N') ∧ fm_make T0i G0i U0i p q r = some (v, T', 0) := by
  by_cases h01 : p = 0 ∨ p = 1
  · by_cases hq : q < 0 ∨ 9 < q
    · exact ⟨-1, _, _, z_signN h01 hq, z_msignN h01 hq⟩
    · obtain ⟨N', hN⟩ := z_signY (r := r) h01 (fun h => hq (.inl h)) (fun h => hq (.inr h))
      obtain ⟨T', hT⟩ := z_msignY (r := r) h01 (fun h => hq (.inl h)) (fun h => hq (.inr h))
      exact ⟨0, _, _, hN, hT⟩
  · have h0 : p ≠ 0 := fun h => h01 (.inl h)
    have h1 : p ≠ 1 := fun h => h01 (.inr h)
    by_cases h5 : p = 5
    · subst h5
      exact ⟨-1, _, _, z_const, z_mconst⟩
    · by_cases h2 : p = 2
      · exact ⟨-1, _, _, z_parts h0 h1 h5 (by rw [h2]; rfl), z_mparts (.inl h2)⟩
      · by_cases h3 : p = 3
        · exact ⟨-1, _, _, z_parts h0 h1 h5 (by rw [h3]; rfl), z_mparts (.inr (.inl h3))⟩
        · by_cases h4 : p = 4
          · exact ⟨-1, _, _, z_parts h0 h1 h5 (by rw [h4]; rfl), z_mparts (.inr (.inr h4))⟩
          · have hN := z_noKind (q := q) (r := r) h0 h1 h2 h3 h4 h5
            by_cases hn : p < 0
            · exact ⟨-1, _, _, hN, z_mneg hn⟩
            · refine ⟨-1, _, _, hN, z_mbig hn ?_⟩
              rcases j_any p with hp | ⟨a, ha, rfl⟩
              · exact absurd hp hn
              · rw [jl5, j_lt (by omega) ha]
                rw [jl0, ne_eq, j_eq ha (by omega)] at h0
                rw [jl1, ne_eq, j_eq ha (by omega)] at h1
                rw [jl2, j_eq ha (by omega)] at h2
                rw [jl3, j_eq ha (by omega)] at h3
                rw [jl4, j_eq ha (by omega)] at h4
                rw [jl5, j_eq ha (by omega)] at h5
                omega
