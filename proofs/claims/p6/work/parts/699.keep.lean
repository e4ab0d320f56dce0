/-! ===== keep ===== -/
/-- all leaves are such as make makes -/
def lvs (q : Nat) : tm → Prop
  | .leaf m => okt 9 q 10 (.leaf m)
  | .branch k l r => (k = 2 ∨ k = 3 ∨ k = 4) ∧ lvs q l ∧ lvs q r
theorem lvs_okt {q : Nat} (t : tm) : lvs q t → okt 9 q 10 t := by
  induction t with
  | leaf m => exact fun h => h
  | branch k l r hl hr => exact fun h => ⟨h.1, hl h.2.1, okt_mono (Nat.le_refl 9) (Nat.le_refl q) r (Nat.le_add_right 10 _) (hr h.2.2)⟩
theorem lvs_tg {q : Nat} (t : tm) : ∀ {c : Nat}, okt 10 q c t → (lvs q t ↔ tg 1 (enc t) = false ∧ tg 0 (enc t) = false) := by
  induction t with
  | leaf m =>
    intro c h
    simp only [enc, tg, List.any_cons, List.any_nil, Bool.or_false, Bool.and_eq_false_iff, beq_eq_false_iff_ne, decide_eq_false_iff_not, lvs, okt] at *
    omega
  | branch k l r hl hr =>
    intro c h
    have hk := h.1
    have h2 := hl h.2.1
    have h3 := hr h.2.2
    simp only [enc]
    rw [show k :: (enc l ++ enc r) = [k] ++ (enc l ++ enc r) from rfl, tg_app, tg_app, tg_app, tg_app, Bool.or_eq_false_iff, Bool.or_eq_false_iff, Bool.or_eq_false_iff, Bool.or_eq_false_iff]
    have k1 : tg 1 [k] = false := by
      simp only [tg, List.any_cons, List.any_nil, Bool.or_false, Bool.and_eq_false_iff, beq_eq_false_iff_ne]
      omega
    have k0 : tg 0 [k] = false := by
      simp only [tg, List.any_cons, List.any_nil, Bool.or_false, Bool.and_eq_false_iff, beq_eq_false_iff_ne]
      omega
    simp only [lvs, h2, h3, k1, k0, true_and]
    constructor
    · rintro ⟨-, ⟨a, b⟩, c, d⟩
      exact ⟨⟨a, c⟩, b, d⟩
    · rintro ⟨⟨a, c⟩, b, d⟩
      exact ⟨hk, ⟨a, b⟩, c, d⟩
/-- what follows the inner loop -/
def kpK (fl w : Nat) (G : cG) (H : cH) (B : cB) (z : cT × cU × cJ × Int32 × Int32 × Int32 × Int32 × Int32) : Option (Int32 × cT × cU × cJ) :=
  match z with
  | (T_16, U_16, J_16, v1_16, v2_16, v3_16, v4_16, v5_16) =>
  if 0 ≤ v3_16 then
  (if v2_16 ≤ 0 then
  (lp_fm_keep_26 fl w T_16 G U_16 H B J_16 v1_16 v2_16 v3_16 (v4_16 + (1 : Int32)))
  else
  match J_16 with
  | (jp_16, ji_16) =>
  if ((v2_16 - (1 : Int32)) < 0 ∨ 130 ≤ ((v2_16 - (1 : Int32))).toNatClampNeg) then none else
  lp_fm_keep_26 fl w T_16 G U_16 H B (jp_16, (upd ji_16 ((v2_16 - (1 : Int32))).toNatClampNeg v3_16)) v1_16 v2_16 v3_16 (v4_16 + (1 : Int32)))
  else
  match T_16 with
  | (te_16, tk_16, ta_16, tb_16, tn_16, td_16) =>
  some ((-1 : Int32), (v1_16, tk_16, ta_16, tb_16, tn_16, td_16), U_16, J_16)
/-- the inner loop ends at once -/
theorem k_end {fl w : Nat} {T : cT} {G : cG} {U : cU} {H : cH} {B : cB} {J : cJ} {v1 v2 v3 v4 v5 : Int32} (h : v3 < 0) : lp_fm_keep_91 fl (w + 1) T G U H B J v1 v2 v3 v4 v5 = some (T, U, J, v1, v2, v3, v4, v5) := by
  rw [lp_fm_keep_91]
  exact if_pos h
theorem k_fail {fl w g : Nat} {T : cT} {G : cG} {U : cU} {H : cH} {B : cB} {J : cJ} {v1 v2 v4 v5 : Int32} : (lp_fm_keep_91 fl (g + 1) T G U H B J v1 v2 jng v4 v5).bind (kpK fl w G H B) = some (jng, (v1, T.2), U, J) := by
  refine bnd (k_end (by decide)) ?_
  unfold kpK
  obtain ⟨te, tk, ta, tb, tn, td⟩ := T
  exact ifn (by decide) rfl
/-- after a part a: it is put down, and the part b comes -/
theorem k_left {fl w g n p i : Nat} {T : cT} {G : cG} {U : cU} {H : cH} {B : cB} {J : cJ} {v1 v5 : Int32} (hn : n < 120) (hp : p < 1000) (hi : i < 1000) (hJ : J.2 n = jng) : (lp_fm_keep_91 fl (g + 1) T G U H B J v1 (jn (n + 1)) (jn p) (jn i) v5).bind (kpK fl w G H B) = lp_fm_keep_26 fl w T G U H B (J.1, upd J.2 n (jn p)) v1 (jn (n + 1)) (jn p) (jn (i + 1)) := by
  obtain ⟨jp, ji⟩ := J
  have hJ : ji n = jng := hJ
  have e1 : jn (n + 1) - (1 : Int32) = jn n := by
    rw [jl1, j_sub (by omega), Nat.add_sub_cancel]
  refine bnd (a := (T, U, (jp, ji), v1, jn (n + 1), jn p, jn i, v5)) ?_ ?_
  · rw [lp_fm_keep_91]
    (repeat (first | (with_reducible refine ifn ?_ ?_; (focus (simp (disch := omega) only [jlo, jl0, jl1, jl2, jl3, jl4, jl5, jl9, jl10, jl12, jl16, jl30, jl60, jl63, jl64, jl80, jl100, jl120, jl512, jlM, jlm, j_lt, j_le, j_eq, j_add, j_mul, j_div, j_mod, j_sub, j_m1, j_nelt, j_melt, j_nele, j_mele, j_neeq, j_meeq, j_nat, j_bz0, j_bz1, jc_le0, jc_le1, jc_lt0, jc_lt1, jc_eq0, jc_eq1, Nat.not_lt_zero, Nat.zero_le, ne_eq, false_or, or_false, true_or, or_true, not_false_eq_true, not_true_eq_false, ↓reduceIte, Option.bind_some, Nat.add_sub_cancel, Nat.add_sub_cancel_left, reduceCtorEq, Option.some.injEq, Prod.mk.injEq, true_and, and_true, decide_true, decide_false, Bool.true_eq_false, Bool.false_eq_true, Bool.not_eq_true, Bool.not_eq_false, hJ]; done))) | (with_reducible refine ifp ?_ ?_; (focus (simp (disch := omega) only [jlo, jl0, jl1, jl2, jl3, jl4, jl5, jl9, jl10, jl12, jl16, jl30, jl60, jl63, jl64, jl80, jl100, jl120, jl512, jlM, jlm, j_lt, j_le, j_eq, j_add, j_mul, j_div, j_mod, j_sub, j_m1, j_nelt, j_melt, j_nele, j_mele, j_neeq, j_meeq, j_nat, j_bz0, j_bz1, jc_le0, jc_le1, jc_lt0, jc_lt1, jc_eq0, jc_eq1, Nat.not_lt_zero, Nat.zero_le, ne_eq, false_or, or_false, true_or, or_true, not_false_eq_true, not_true_eq_false, ↓reduceIte, Option.bind_some, Nat.add_sub_cancel, Nat.add_sub_cancel_left, reduceCtorEq, Option.some.injEq, Prod.mk.injEq, true_and, and_true, decide_true, decide_false, Bool.true_eq_false, Bool.false_eq_true, Bool.not_eq_true, Bool.not_eq_false, hJ]; done))) | (with_reducible apply bnd1; (focus ((try simp (disch := omega) only [jlo, jl0, jl1, jl2, jl3, jl4, jl5, jl9, jl10, jl12, jl16, jl30, jl60, jl63, jl64, jl80, jl100, jl120, jl512, jlM, jlm, j_lt, j_le, j_eq, j_add, j_mul, j_div, j_mod, j_sub, j_m1, j_nelt, j_melt, j_nele, j_mele, j_neeq, j_meeq, j_nat, j_bz0, j_bz1, jc_le0, jc_le1, jc_lt0, jc_lt1, jc_eq0, jc_eq1, Nat.not_lt_zero, Nat.zero_le, ne_eq, false_or, or_false, true_or, or_true, not_false_eq_true, not_true_eq_false, ↓reduceIte, Option.bind_some, Nat.add_sub_cancel, Nat.add_sub_cancel_left, reduceCtorEq, Option.some.injEq, Prod.mk.injEq, true_and, and_true, decide_true, decide_false, Bool.true_eq_false, Bool.false_eq_true, Bool.not_eq_true, Bool.not_eq_false, hJ]); exact rfl)); with_reducible refine bnd rfl ?_)))
    rfl
  · unfold kpK
    (repeat (first | (with_reducible refine ifn ?_ ?_; (focus (simp (disch := omega) only [jlo, jl0, jl1, jl2, jl3, jl4, jl5, jl9, jl10, jl12, jl16, jl30, jl60, jl63, jl64, jl80, jl100, jl120, jl512, jlM, jlm, j_lt, j_le, j_eq, j_add, j_mul, j_div, j_mod, j_sub, j_m1, j_nelt, j_melt, j_nele, j_mele, j_neeq, j_meeq, j_nat, j_bz0, j_bz1, jc_le0, jc_le1, jc_lt0, jc_lt1, jc_eq0, jc_eq1, Nat.not_lt_zero, Nat.zero_le, ne_eq, false_or, or_false, true_or, or_true, not_false_eq_true, not_true_eq_false, ↓reduceIte, Option.bind_some, Nat.add_sub_cancel, Nat.add_sub_cancel_left, reduceCtorEq, Option.some.injEq, Prod.mk.injEq, true_and, and_true, decide_true, decide_false, Bool.true_eq_false, Bool.false_eq_true, Bool.not_eq_true, Bool.not_eq_false]; done))) | (with_reducible refine ifp ?_ ?_; (focus (simp (disch := omega) only [jlo, jl0, jl1, jl2, jl3, jl4, jl5, jl9, jl10, jl12, jl16, jl30, jl60, jl63, jl64, jl80, jl100, jl120, jl512, jlM, jlm, j_lt, j_le, j_eq, j_add, j_mul, j_div, j_mod, j_sub, j_m1, j_nelt, j_melt, j_nele, j_mele, j_neeq, j_meeq, j_nat, j_bz0, j_bz1, jc_le0, jc_le1, jc_lt0, jc_lt1, jc_eq0, jc_eq1, Nat.not_lt_zero, Nat.zero_le, ne_eq, false_or, or_false, true_or, or_true, not_false_eq_true, not_true_eq_false, ↓reduceIte, Option.bind_some, Nat.add_sub_cancel, Nat.add_sub_cancel_left, reduceCtorEq, Option.some.injEq, Prod.mk.injEq, true_and, and_true, decide_true, decide_false, Bool.true_eq_false, Bool.false_eq_true, Bool.not_eq_true, Bool.not_eq_false]; done))) | (with_reducible apply bnd1; (focus ((try simp (disch := omega) only [jlo, jl0, jl1, jl2, jl3, jl4, jl5, jl9, jl10, jl12, jl16, jl30, jl60, jl63, jl64, jl80, jl100, jl120, jl512, jlM, jlm, j_lt, j_le, j_eq, j_add, j_mul, j_div, j_mod, j_sub, j_m1, j_nelt, j_melt, j_nele, j_mele, j_neeq, j_meeq, j_nat, j_bz0, j_bz1, jc_le0, jc_le1, jc_lt0, jc_lt1, jc_eq0, jc_eq1, Nat.not_lt_zero, Nat.zero_le, ne_eq, false_or, or_false, true_or, or_true, not_false_eq_true, not_true_eq_false, ↓reduceIte, Option.bind_some, Nat.add_sub_cancel, Nat.add_sub_cancel_left, reduceCtorEq, Option.some.injEq, Prod.mk.injEq, true_and, and_true, decide_true, decide_false, Bool.true_eq_false, Bool.false_eq_true, Bool.not_eq_true, Bool.not_eq_false]); exact rfl)); with_reducible refine bnd rfl ?_)))
    simp (disch := omega) only [jlo, jl0, jl1, jl2, jl3, jl4, jl5, jl9, jl10, jl12, jl16, jl30, jl60, jl63, jl64, jl80, jl100, jl120, jl512, jlM, jlm, j_lt, j_le, j_eq, j_add, j_mul, j_div, j_mod, j_sub, j_m1, j_nelt, j_melt, j_nele, j_mele, j_neeq, j_meeq, j_nat, j_bz0, j_bz1, jc_le0, jc_le1, jc_lt0, jc_lt1, jc_eq0, jc_eq1, Nat.not_lt_zero, Nat.zero_le, ne_eq, false_or, or_false, true_or, or_true, not_false_eq_true, not_true_eq_false, ↓reduceIte, Option.bind_some, Nat.add_sub_cancel, Nat.add_sub_cancel_left, reduceCtorEq, Option.some.injEq, Prod.mk.injEq, true_and, and_true, decide_true, decide_false, Bool.true_eq_false, Bool.false_eq_true, Bool.not_eq_true, Bool.not_eq_false]
/-- after a part b: the node itself -/
theorem k_right {fl g n p kd a i : Nat} {T : cT} {G : cG} {U : cU} {H : cH} {B : cB} {J : cJ} {v1 v5 r : Int32} {T' : cT} {U' : cU} (hn : n < 120) (hp : p < 1000) (ha : a < 1000) (hJ1 : J.1 n = jn kd) (hJ : J.2 n = jn a) (hf : fm_find fl T G U (jn kd) (jn a) (jn p) = some (r, T', U')) : lp_fm_keep_91 fl (g + 1) T G U H B J v1 (jn (n + 1)) (jn p) (jn i) v5 = lp_fm_keep_91 fl g T' G U' H B J v1 (jn n) r (jn i) v5 := by
  obtain ⟨jp, ji⟩ := J
  have hJ : ji n = jn a := hJ
  have hJ1 : jp n = jn kd := hJ1
  have e2 : jn (n + 1) + (-1 : Int32) = jn n := by
    rw [show (-1 : Int32) = jng from rfl, j_m1 (by omega), Nat.add_sub_cancel]
  conv => lhs; rw [lp_fm_keep_91]
  (repeat (first | (with_reducible refine ifn ?_ ?_; (focus (simp (disch := omega) only [jlo, jl0, jl1, jl2, jl3, jl4, jl5, jl9, jl10, jl12, jl16, jl30, jl60, jl63, jl64, jl80, jl100, jl120, jl512, jlM, jlm, j_lt, j_le, j_eq, j_add, j_mul, j_div, j_mod, j_sub, j_m1, j_nelt, j_melt, j_nele, j_mele, j_neeq, j_meeq, j_nat, j_bz0, j_bz1, jc_le0, jc_le1, jc_lt0, jc_lt1, jc_eq0, jc_eq1, Nat.not_lt_zero, Nat.zero_le, ne_eq, false_or, or_false, true_or, or_true, not_false_eq_true, not_true_eq_false, ↓reduceIte, Option.bind_some, Nat.add_sub_cancel, Nat.add_sub_cancel_left, reduceCtorEq, Option.some.injEq, Prod.mk.injEq, true_and, and_true, decide_true, decide_false, Bool.true_eq_false, Bool.false_eq_true, Bool.not_eq_true, Bool.not_eq_false, hJ, hJ1, e2]; done))) | (with_reducible refine ifp ?_ ?_; (focus (simp (disch := omega) only [jlo, jl0, jl1, jl2, jl3, jl4, jl5, jl9, jl10, jl12, jl16, jl30, jl60, jl63, jl64, jl80, jl100, jl120, jl512, jlM, jlm, j_lt, j_le, j_eq, j_add, j_mul, j_div, j_mod, j_sub, j_m1, j_nelt, j_melt, j_nele, j_mele, j_neeq, j_meeq, j_nat, j_bz0, j_bz1, jc_le0, jc_le1, jc_lt0, jc_lt1, jc_eq0, jc_eq1, Nat.not_lt_zero, Nat.zero_le, ne_eq, false_or, or_false, true_or, or_true, not_false_eq_true, not_true_eq_false, ↓reduceIte, Option.bind_some, Nat.add_sub_cancel, Nat.add_sub_cancel_left, reduceCtorEq, Option.some.injEq, Prod.mk.injEq, true_and, and_true, decide_true, decide_false, Bool.true_eq_false, Bool.false_eq_true, Bool.not_eq_true, Bool.not_eq_false, hJ, hJ1, e2]; done))) | (with_reducible apply bnd1; (focus ((try simp (disch := omega) only [jlo, jl0, jl1, jl2, jl3, jl4, jl5, jl9, jl10, jl12, jl16, jl30, jl60, jl63, jl64, jl80, jl100, jl120, jl512, jlM, jlm, j_lt, j_le, j_eq, j_add, j_mul, j_div, j_mod, j_sub, j_m1, j_nelt, j_melt, j_nele, j_mele, j_neeq, j_meeq, j_nat, j_bz0, j_bz1, jc_le0, jc_le1, jc_lt0, jc_lt1, jc_eq0, jc_eq1, Nat.not_lt_zero, Nat.zero_le, ne_eq, false_or, or_false, true_or, or_true, not_false_eq_true, not_true_eq_false, ↓reduceIte, Option.bind_some, Nat.add_sub_cancel, Nat.add_sub_cancel_left, reduceCtorEq, Option.some.injEq, Prod.mk.injEq, true_and, and_true, decide_true, decide_false, Bool.true_eq_false, Bool.false_eq_true, Bool.not_eq_true, Bool.not_eq_false, hJ, hJ1, e2]); exact rfl)); with_reducible refine bnd rfl ?_)))
  rw [e2, j_nat (by omega), hJ, hJ1]
  exact bnd hf rfl
/-- at the end of all: nothing waits -/
theorem k_done {fl w g p i : Nat} {T : cT} {G : cG} {U : cU} {H : cH} {B : cB} {J : cJ} {v1 v5 : Int32} (hp : p < 1000) (hi : i < 1000) : (lp_fm_keep_91 fl (g + 1) T G U H B J v1 (jn 0) (jn p) (jn i) v5).bind (kpK fl w G H B) = lp_fm_keep_26 fl w T G U H B J v1 (jn 0) (jn p) (jn (i + 1)) := by
  refine bnd (a := (T, U, J, v1, jn 0, jn p, jn i, v5)) ?_ ?_
  · rw [lp_fm_keep_91]
    (repeat (first | (with_reducible refine ifn ?_ ?_; (focus (simp (disch := omega) only [jlo, jl0, jl1, jl2, jl3, jl4, jl5, jl9, jl10, jl12, jl16, jl30, jl60, jl63, jl64, jl80, jl100, jl120, jl512, jlM, jlm, j_lt, j_le, j_eq, j_add, j_mul, j_div, j_mod, j_sub, j_m1, j_nelt, j_melt, j_nele, j_mele, j_neeq, j_meeq, j_nat, j_bz0, j_bz1, jc_le0, jc_le1, jc_lt0, jc_lt1, jc_eq0, jc_eq1, Nat.not_lt_zero, Nat.zero_le, ne_eq, false_or, or_false, true_or, or_true, not_false_eq_true, not_true_eq_false, ↓reduceIte, Option.bind_some, Nat.add_sub_cancel, Nat.add_sub_cancel_left, reduceCtorEq, Option.some.injEq, Prod.mk.injEq, true_and, and_true, decide_true, decide_false, Bool.true_eq_false, Bool.false_eq_true, Bool.not_eq_true, Bool.not_eq_false]; done))) | (with_reducible refine ifp ?_ ?_; (focus (simp (disch := omega) only [jlo, jl0, jl1, jl2, jl3, jl4, jl5, jl9, jl10, jl12, jl16, jl30, jl60, jl63, jl64, jl80, jl100, jl120, jl512, jlM, jlm, j_lt, j_le, j_eq, j_add, j_mul, j_div, j_mod, j_sub, j_m1, j_nelt, j_melt, j_nele, j_mele, j_neeq, j_meeq, j_nat, j_bz0, j_bz1, jc_le0, jc_le1, jc_lt0, jc_lt1, jc_eq0, jc_eq1, Nat.not_lt_zero, Nat.zero_le, ne_eq, false_or, or_false, true_or, or_true, not_false_eq_true, not_true_eq_false, ↓reduceIte, Option.bind_some, Nat.add_sub_cancel, Nat.add_sub_cancel_left, reduceCtorEq, Option.some.injEq, Prod.mk.injEq, true_and, and_true, decide_true, decide_false, Bool.true_eq_false, Bool.false_eq_true, Bool.not_eq_true, Bool.not_eq_false]; done))) | (with_reducible apply bnd1; (focus ((try simp (disch := omega) only [jlo, jl0, jl1, jl2, jl3, jl4, jl5, jl9, jl10, jl12, jl16, jl30, jl60, jl63, jl64, jl80, jl100, jl120, jl512, jlM, jlm, j_lt, j_le, j_eq, j_add, j_mul, j_div, j_mod, j_sub, j_m1, j_nelt, j_melt, j_nele, j_mele, j_neeq, j_meeq, j_nat, j_bz0, j_bz1, jc_le0, jc_le1, jc_lt0, jc_lt1, jc_eq0, jc_eq1, Nat.not_lt_zero, Nat.zero_le, ne_eq, false_or, or_false, true_or, or_true, not_false_eq_true, not_true_eq_false, ↓reduceIte, Option.bind_some, Nat.add_sub_cancel, Nat.add_sub_cancel_left, reduceCtorEq, Option.some.injEq, Prod.mk.injEq, true_and, and_true, decide_true, decide_false, Bool.true_eq_false, Bool.false_eq_true, Bool.not_eq_true, Bool.not_eq_false]); exact rfl)); with_reducible refine bnd rfl ?_)))
    rfl
  · unfold kpK
    (repeat (first | (with_reducible refine ifn ?_ ?_; (focus (simp (disch := omega) only [jlo, jl0, jl1, jl2, jl3, jl4, jl5, jl9, jl10, jl12, jl16, jl30, jl60, jl63, jl64, jl80, jl100, jl120, jl512, jlM, jlm, j_lt, j_le, j_eq, j_add, j_mul, j_div, j_mod, j_sub, j_m1, j_nelt, j_melt, j_nele, j_mele, j_neeq, j_meeq, j_nat, j_bz0, j_bz1, jc_le0, jc_le1, jc_lt0, jc_lt1, jc_eq0, jc_eq1, Nat.not_lt_zero, Nat.zero_le, ne_eq, false_or, or_false, true_or, or_true, not_false_eq_true, not_true_eq_false, ↓reduceIte, Option.bind_some, Nat.add_sub_cancel, Nat.add_sub_cancel_left, reduceCtorEq, Option.some.injEq, Prod.mk.injEq, true_and, and_true, decide_true, decide_false, Bool.true_eq_false, Bool.false_eq_true, Bool.not_eq_true, Bool.not_eq_false]; done))) | (with_reducible refine ifp ?_ ?_; (focus (simp (disch := omega) only [jlo, jl0, jl1, jl2, jl3, jl4, jl5, jl9, jl10, jl12, jl16, jl30, jl60, jl63, jl64, jl80, jl100, jl120, jl512, jlM, jlm, j_lt, j_le, j_eq, j_add, j_mul, j_div, j_mod, j_sub, j_m1, j_nelt, j_melt, j_nele, j_mele, j_neeq, j_meeq, j_nat, j_bz0, j_bz1, jc_le0, jc_le1, jc_lt0, jc_lt1, jc_eq0, jc_eq1, Nat.not_lt_zero, Nat.zero_le, ne_eq, false_or, or_false, true_or, or_true, not_false_eq_true, not_true_eq_false, ↓reduceIte, Option.bind_some, Nat.add_sub_cancel, Nat.add_sub_cancel_left, reduceCtorEq, Option.some.injEq, Prod.mk.injEq, true_and, and_true, decide_true, decide_false, Bool.true_eq_false, Bool.false_eq_true, Bool.not_eq_true, Bool.not_eq_false]; done))) | (with_reducible apply bnd1; (focus ((try simp (disch := omega) only [jlo, jl0, jl1, jl2, jl3, jl4, jl5, jl9, jl10, jl12, jl16, jl30, jl60, jl63, jl64, jl80, jl100, jl120, jl512, jlM, jlm, j_lt, j_le, j_eq, j_add, j_mul, j_div, j_mod, j_sub, j_m1, j_nelt, j_melt, j_nele, j_mele, j_neeq, j_meeq, j_nat, j_bz0, j_bz1, jc_le0, jc_le1, jc_lt0, jc_lt1, jc_eq0, jc_eq1, Nat.not_lt_zero, Nat.zero_le, ne_eq, false_or, or_false, true_or, or_true, not_false_eq_true, not_true_eq_false, ↓reduceIte, Option.bind_some, Nat.add_sub_cancel, Nat.add_sub_cancel_left, reduceCtorEq, Option.some.injEq, Prod.mk.injEq, true_and, and_true, decide_true, decide_false, Bool.true_eq_false, Bool.false_eq_true, Bool.not_eq_true, Bool.not_eq_false]); exact rfl)); with_reducible refine bnd rfl ?_)))
    simp (disch := omega) only [jlo, jl0, jl1, jl2, jl3, jl4, jl5, jl9, jl10, jl12, jl16, jl30, jl60, jl63, jl64, jl80, jl100, jl120, jl512, jlM, jlm, j_lt, j_le, j_eq, j_add, j_mul, j_div, j_mod, j_sub, j_m1, j_nelt, j_melt, j_nele, j_mele, j_neeq, j_meeq, j_nat, j_bz0, j_bz1, jc_le0, jc_le1, jc_lt0, jc_lt1, jc_eq0, jc_eq1, Nat.not_lt_zero, Nat.zero_le, ne_eq, false_or, or_false, true_or, or_true, not_false_eq_true, not_true_eq_false, ↓reduceIte, Option.bind_some, Nat.add_sub_cancel, Nat.add_sub_cancel_left, reduceCtorEq, Option.some.injEq, Prod.mk.injEq, true_and, and_true, decide_true, decide_false, Bool.true_eq_false, Bool.false_eq_true, Bool.not_eq_true, Bool.not_eq_false]
theorem q_mbadleaf {T : cT} {G : cG} {U : cU} {m : Nat} (hT : T.1 = jn m) (hm : m ≤ 120) {x : Nat} (hx : (x % 10 = 0 ∨ x % 10 = 1) ∧ 9 < x / 10) (hx2 : x < 10000) : fm_make T G U (jn (x % 10)) (jn (x / 10)) jng = some (jng, T, jn 0) := by
  by_cases h : m = 120
  · subst h
    exact q_mfull hT _ _ _
  · exact q_msign hT (by omega) hx.1 (.inr ⟨x / 10, by omega, rfl, hx.2⟩)
/-- a term's marks are made, on both sides -/
theorem b_keep_t {fl q : Nat} (hfl : 10000 ≤ fl) {C : cC} {P : cP} {G : cG} {H : cH} {br bl : Nat → Int32} {ct : Nat → tm} {bo : Nat → Option tm} {L : Nat} (hL : L ≤ 60) {pr : Nat → Int32} (hbl : bl 2 = jn L) {v1 : Int32} (k m : Nat) (t : tm) : ∀ {N : cN} {T : cT} {U : cU} {J : cJ} {d i n c : Nat}, Iv q N C P T G H (br, bl) ct bo → okt 10 q c t → c + dp t ≤ 30 → sz t ≤ 60 → dp t ≤ 12 → dp t ≤ d → i + sz t ≤ L → Seg pr i (enc t) → Seg br (60 * 2 + i) (enc t) → n + dp t ≤ 100 →
    (lvs q t ∧ ∃ N' T' U' J' p, fM_readNode_P fl d N (pr, jn L, jn i) k m (jn 1) = some (jn p, N', (pr, jn L, jn (i + sz t)), (k, m)) ∧ Iv q N' C P T' G H (br, bl) ct bo ∧ Nx N T N' T' ∧ p < nmt N' ∧ Rp (dr N') p t ∧ Tr (nmt N') T'.2.1 T'.2.2.1 T'.2.2.2.1 p t ∧ (∀ x, x < n → J'.1 x = J.1 x ∧ J'.2 x = J.2 x) ∧
      ∀ w v3, ∃ g v5, fl ≤ g + sz t ∧ lp_fm_keep_26 fl (w + sz t) T G U H (br, bl) J v1 (jn n) v3 (jn i) = (lp_fm_keep_91 fl g T' G U' H (br, bl) J' v1 (jn n) (jn p) (jn (i + sz t - 1)) v5).bind (kpK fl w G H (br, bl))) ∨
    (∃ N' T' U' J', Nx N T N' T' ∧ NI N' ∧ (lvs q t → ∃ x, fM_readNode_P fl d N (pr, jn L, jn i) k m (jn 1) = some (jng, N', (pr, jn L, x), (k, m))) ∧ ∀ w v3, lp_fm_keep_26 fl (w + sz t) T G U H (br, bl) J v1 (jn n) v3 (jn i) = some (jng, (v1, T'.2), U', J')) := by
  induction t with
  | leaf x =>
    intro N T U J d i n c h hk hc h60 hdp hd hi hs hs2 hn
    have hiv := h
    obtain ⟨hN, -, hT, hC, -, -, -, -⟩ := h
    have hq : q ≤ 16 := hC.2.1
    simp only [sz, dp] at *
    obtain ⟨d, rfl⟩ : ∃ d', d = d' + 1 := ⟨d - 1, by omega⟩
    have hw : wft (.leaf x) := okt_wft (by omega) (by omega) _ hk (by simp only [dp]; omega)
    have hx1 := hw.1
    have hx2 := hw.2
    have ha := c_atP (qr := pr) (qx := jn i) (by omega : i < L) hL
    rw [show pr i = jn x from hs.1] at ha
    have hp := cj_parts (k := x % 10) (by omega)
    rw [decide_eq_false (by omega)] at hp
    have hmm : x - x / 10 * 10 = x % 10 := by omega
    have hat : fm_at (br, bl) (jn 2) (jn i) = some (br (60 * 2 + i)) := q_at (by omega)
    rw [show br (60 * 2 + i) = jn x from hs2.1] at hat
    have hkd := q_kind hx1
    have hpt := q_parts hx1
    rw [decide_eq_false (by omega)] at hpt
    have hdiv : jn x / (10 : Int32) = jn (x / 10) := by rw [jl10, j_div (by omega) (by omega)]
    have hmod : jn x - jn x / (10 : Int32) * (10 : Int32) = jn (x % 10) := by
      rw [hdiv, jl10, j_mul, j_sub (by omega), hmm]
    have step : ∀ w v3 r T' U', fm_find fl T G U (jn (x % 10)) (jn (x / 10)) jng = some (r, T', U') → lp_fm_keep_26 fl (w + 1) T G U H (br, bl) J v1 (jn n) v3 (jn i) = (lp_fm_keep_91 fl fl T' G U' H (br, bl) J v1 (jn n) r (jn i) (jn x)).bind (kpK fl w G H (br, bl)) := by
      intro w v3 r T' U' hf
      rw [lp_fm_keep_26]
      refine ifn (by decide) (ifn ?_ (bnd hat (bnd hpt (ifp rfl (bnd hkd (bnd (a := (r, T', U')) ?_ rfl))))))
      · rw [show bl (2 : Int32).toNatClampNeg = jn L from hbl, j_le (by omega) (by omega)]
        omega
      · rw [hdiv]
        exact hf
    by_cases hg : okt 9 q 10 (.leaf x)
    · rcases b_find hfl hiv U (p := jn (x % 10)) (x := jn (x / 10)) (y := jng) (t := .leaf x) (.inl ⟨x, rfl, rfl, rfl, rfl⟩) (.inl ⟨x, rfl, rfl, hg⟩) hg (by simp only [dp]; omega) with ⟨p, N', T', U', f1, f2, f3, f4, f5, f6, f7⟩ | ⟨f1, U', f2⟩
      · refine .inl ⟨hg, N', T', U', J, p, ?_, f3, f4, f5, f6, f7, fun _ _ => ⟨rfl, rfl⟩, fun w v3 => ⟨fl, jn x, by omega, step w v3 _ _ _ f2⟩⟩
        rw [fM_readNode_P]
        (repeat (first | (with_reducible refine ifn ?_ ?_; (focus (simp (disch := omega) only [jlo, jl0, jl1, jl2, jl3, jl4, jl5, jl9, jl10, jl12, jl16, jl30, jl60, jl63, jl64, jl80, jl100, jl120, jl512, jlM, jlm, j_lt, j_le, j_eq, j_add, j_mul, j_div, j_mod, j_sub, j_m1, j_nelt, j_melt, j_nele, j_mele, j_neeq, j_meeq, j_nat, j_bz0, j_bz1, jc_le0, jc_le1, jc_lt0, jc_lt1, jc_eq0, jc_eq1, Nat.not_lt_zero, Nat.zero_le, ne_eq, false_or, or_false, true_or, or_true, not_false_eq_true, not_true_eq_false, ↓reduceIte, Option.bind_some, Nat.add_sub_cancel, Nat.add_sub_cancel_left, reduceCtorEq, Option.some.injEq, Prod.mk.injEq, true_and, and_true, decide_true, decide_false, Bool.true_eq_false, Bool.false_eq_true, Bool.not_eq_true, Bool.not_eq_false, ha, hmm, hp, f1]; done))) | (with_reducible refine ifp ?_ ?_; (focus (simp (disch := omega) only [jlo, jl0, jl1, jl2, jl3, jl4, jl5, jl9, jl10, jl12, jl16, jl30, jl60, jl63, jl64, jl80, jl100, jl120, jl512, jlM, jlm, j_lt, j_le, j_eq, j_add, j_mul, j_div, j_mod, j_sub, j_m1, j_nelt, j_melt, j_nele, j_mele, j_neeq, j_meeq, j_nat, j_bz0, j_bz1, jc_le0, jc_le1, jc_lt0, jc_lt1, jc_eq0, jc_eq1, Nat.not_lt_zero, Nat.zero_le, ne_eq, false_or, or_false, true_or, or_true, not_false_eq_true, not_true_eq_false, ↓reduceIte, Option.bind_some, Nat.add_sub_cancel, Nat.add_sub_cancel_left, reduceCtorEq, Option.some.injEq, Prod.mk.injEq, true_and, and_true, decide_true, decide_false, Bool.true_eq_false, Bool.false_eq_true, Bool.not_eq_true, Bool.not_eq_false, ha, hmm, hp, f1]; done))) | (with_reducible apply bnd1; (focus ((try simp (disch := omega) only [jlo, jl0, jl1, jl2, jl3, jl4, jl5, jl9, jl10, jl12, jl16, jl30, jl60, jl63, jl64, jl80, jl100, jl120, jl512, jlM, jlm, j_lt, j_le, j_eq, j_add, j_mul, j_div, j_mod, j_sub, j_m1, j_nelt, j_melt, j_nele, j_mele, j_neeq, j_meeq, j_nat, j_bz0, j_bz1, jc_le0, jc_le1, jc_lt0, jc_lt1, jc_eq0, jc_eq1, Nat.not_lt_zero, Nat.zero_le, ne_eq, false_or, or_false, true_or, or_true, not_false_eq_true, not_true_eq_false, ↓reduceIte, Option.bind_some, Nat.add_sub_cancel, Nat.add_sub_cancel_left, reduceCtorEq, Option.some.injEq, Prod.mk.injEq, true_and, and_true, decide_true, decide_false, Bool.true_eq_false, Bool.false_eq_true, Bool.not_eq_true, Bool.not_eq_false, ha, hmm, hp, f1]); exact rfl)); with_reducible refine bnd rfl ?_)))
        simp (disch := omega) only [jlo, jl0, jl1, jl2, jl3, jl4, jl5, jl9, jl10, jl12, jl16, jl30, jl60, jl63, jl64, jl80, jl100, jl120, jl512, jlM, jlm, j_lt, j_le, j_eq, j_add, j_mul, j_div, j_mod, j_sub, j_m1, j_nelt, j_melt, j_nele, j_mele, j_neeq, j_meeq, j_nat, j_bz0, j_bz1, jc_le0, jc_le1, jc_lt0, jc_lt1, jc_eq0, jc_eq1, Nat.not_lt_zero, Nat.zero_le, ne_eq, false_or, or_false, true_or, or_true, not_false_eq_true, not_true_eq_false, ↓reduceIte, Option.bind_some, Nat.add_sub_cancel, Nat.add_sub_cancel_left, reduceCtorEq, Option.some.injEq, Prod.mk.injEq, true_and, and_true, decide_true, decide_false, Bool.true_eq_false, Bool.false_eq_true, Bool.not_eq_true, Bool.not_eq_false]
      · refine .inr ⟨N, T, U', J, nx_refl N T, hN, fun _ => ⟨jn (i + 1), ?_⟩, fun w v3 => ?_⟩
        · rw [fM_readNode_P]
          (repeat (first | (with_reducible refine ifn ?_ ?_; (focus (simp (disch := omega) only [jlo, jl0, jl1, jl2, jl3, jl4, jl5, jl9, jl10, jl12, jl16, jl30, jl60, jl63, jl64, jl80, jl100, jl120, jl512, jlM, jlm, j_lt, j_le, j_eq, j_add, j_mul, j_div, j_mod, j_sub, j_m1, j_nelt, j_melt, j_nele, j_mele, j_neeq, j_meeq, j_nat, j_bz0, j_bz1, jc_le0, jc_le1, jc_lt0, jc_lt1, jc_eq0, jc_eq1, Nat.not_lt_zero, Nat.zero_le, ne_eq, false_or, or_false, true_or, or_true, not_false_eq_true, not_true_eq_false, ↓reduceIte, Option.bind_some, Nat.add_sub_cancel, Nat.add_sub_cancel_left, reduceCtorEq, Option.some.injEq, Prod.mk.injEq, true_and, and_true, decide_true, decide_false, Bool.true_eq_false, Bool.false_eq_true, Bool.not_eq_true, Bool.not_eq_false, ha, hmm, hp, f1]; done))) | (with_reducible refine ifp ?_ ?_; (focus (simp (disch := omega) only [jlo, jl0, jl1, jl2, jl3, jl4, jl5, jl9, jl10, jl12, jl16, jl30, jl60, jl63, jl64, jl80, jl100, jl120, jl512, jlM, jlm, j_lt, j_le, j_eq, j_add, j_mul, j_div, j_mod, j_sub, j_m1, j_nelt, j_melt, j_nele, j_mele, j_neeq, j_meeq, j_nat, j_bz0, j_bz1, jc_le0, jc_le1, jc_lt0, jc_lt1, jc_eq0, jc_eq1, Nat.not_lt_zero, Nat.zero_le, ne_eq, false_or, or_false, true_or, or_true, not_false_eq_true, not_true_eq_false, ↓reduceIte, Option.bind_some, Nat.add_sub_cancel, Nat.add_sub_cancel_left, reduceCtorEq, Option.some.injEq, Prod.mk.injEq, true_and, and_true, decide_true, decide_false, Bool.true_eq_false, Bool.false_eq_true, Bool.not_eq_true, Bool.not_eq_false, ha, hmm, hp, f1]; done))) | (with_reducible apply bnd1; (focus ((try simp (disch := omega) only [jlo, jl0, jl1, jl2, jl3, jl4, jl5, jl9, jl10, jl12, jl16, jl30, jl60, jl63, jl64, jl80, jl100, jl120, jl512, jlM, jlm, j_lt, j_le, j_eq, j_add, j_mul, j_div, j_mod, j_sub, j_m1, j_nelt, j_melt, j_nele, j_mele, j_neeq, j_meeq, j_nat, j_bz0, j_bz1, jc_le0, jc_le1, jc_lt0, jc_lt1, jc_eq0, jc_eq1, Nat.not_lt_zero, Nat.zero_le, ne_eq, false_or, or_false, true_or, or_true, not_false_eq_true, not_true_eq_false, ↓reduceIte, Option.bind_some, Nat.add_sub_cancel, Nat.add_sub_cancel_left, reduceCtorEq, Option.some.injEq, Prod.mk.injEq, true_and, and_true, decide_true, decide_false, Bool.true_eq_false, Bool.false_eq_true, Bool.not_eq_true, Bool.not_eq_false, ha, hmm, hp, f1]); exact rfl)); with_reducible refine bnd rfl ?_)))
          simp (disch := omega) only [jlo, jl0, jl1, jl2, jl3, jl4, jl5, jl9, jl10, jl12, jl16, jl30, jl60, jl63, jl64, jl80, jl100, jl120, jl512, jlM, jlm, j_lt, j_le, j_eq, j_add, j_mul, j_div, j_mod, j_sub, j_m1, j_nelt, j_melt, j_nele, j_mele, j_neeq, j_meeq, j_nat, j_bz0, j_bz1, jc_le0, jc_le1, jc_lt0, jc_lt1, jc_eq0, jc_eq1, Nat.not_lt_zero, Nat.zero_le, ne_eq, false_or, or_false, true_or, or_true, not_false_eq_true, not_true_eq_false, ↓reduceIte, Option.bind_some, Nat.add_sub_cancel, Nat.add_sub_cancel_left, reduceCtorEq, Option.some.injEq, Prod.mk.injEq, true_and, and_true, decide_true, decide_false, Bool.true_eq_false, Bool.false_eq_true, Bool.not_eq_true, Bool.not_eq_false]
        · rw [step w v3 _ _ _ f2]
          obtain ⟨g, rfl⟩ : ∃ g, fl = g + 1 := ⟨fl - 1, by omega⟩
          exact k_fail
    · have hbad : (x % 10 = 0 ∨ x % 10 = 1) ∧ 9 < x / 10 := by
        simp only [okt] at hg hk
        omega
      have hmk := q_mbadleaf (G := G) (U := U) (hT.1) hN.2.2.2.1 hbad hx1
      have h120 : nmt N ≤ 120 := hN.2.2.2.1
      have hl := b_find_l (fl := fl) hN hT G U (jn (x % 10)) (jn (x / 10)) jng (nmt N) 0 (fl - nmt N - 1) (by omega)
      rw [show fl - nmt N - 1 + nmt N + 1 = fl by omega] at hl
      rcases hl with ⟨i', hi', e1, e2, e3, -, -⟩ | ⟨-, f2⟩
      · obtain ⟨-, -, g3, -⟩ := node_is (t := .leaf x) hq hN hT hi' e1 e2 e3 (.inl ⟨x, rfl, rfl, rfl, rfl⟩) (okt_mono (Nat.le_refl 10) (Nat.le_refl q) _ (by omega) hk) (by simp only [dp]; omega)
        exact absurd g3 hg
      · refine .inr ⟨N, T, jn 0, J, nx_refl N T, hN, fun hl => absurd hl hg, fun w v3 => ?_⟩
        rw [step w v3 _ _ _ (f2 _ _ _ hmk)]
        obtain ⟨g, rfl⟩ : ∃ g, fl = g + 1 := ⟨fl - 1, by omega⟩
        exact k_fail
  | branch kd l r hl hr =>
    intro N T U J d i n c h hk hc h60 hdp hd hi hs hs2 hn
    have hiv := h
    obtain ⟨hN, -, hT, hC, -, -, -, -⟩ := h
    have hq : q ≤ 16 := hC.2.1
    have hw : wft (.branch kd l r) := okt_wft (by omega) (by omega) _ hk (by omega)
    have hs := seg_t.mp hs
    have hs2 := seg_t.mp hs2
    simp only [sz, dp] at *
    obtain ⟨d, rfl⟩ : ∃ d', d = d' + 1 := ⟨d - 1, by omega⟩
    have d1 : dp l ≤ Nat.max (dp l) (dp r) := Nat.le_max_left _ _
    have d2 : dp r ≤ Nat.max (dp l) (dp r) := Nat.le_max_right _ _
    have hkk := hw.1
    have pl := sz_pos l
    have pr' := sz_pos r
    have hbi := bi_le kd
    have ha := c_atP (qr := pr) (qx := jn i) (by omega : i < L) hL
    rw [hs.1] at ha
    have hp := cj_parts (k := kd) (by omega)
    rw [decide_eq_true (by omega)] at hp
    have hmm : kd - kd / 10 * 10 = kd := by omega
    have hat : fm_at (br, bl) (jn 2) (jn i) = some (br (60 * 2 + i)) := q_at (by omega)
    rw [hs2.1] at hat
    have hpt := q_parts (m := kd) (by omega)
    rw [decide_eq_true (by omega)] at hpt
    obtain ⟨jp, ji⟩ := J
    have pstep : ∀ w v3, lp_fm_keep_26 fl (w + 1) T G U H (br, bl) (jp, ji) v1 (jn n) v3 (jn i) = lp_fm_keep_26 fl w T G U H (br, bl) (upd jp n (jn kd), upd ji n jng) v1 (jn (n + 1)) v3 (jn (i + 1)) := by
      intro w v3
      conv => lhs; rw [lp_fm_keep_26]
      (repeat (first | (with_reducible refine ifn ?_ ?_; (focus (simp (disch := omega) only [jlo, jl0, jl1, jl2, jl3, jl4, jl5, jl9, jl10, jl12, jl16, jl30, jl60, jl63, jl64, jl80, jl100, jl120, jl512, jlM, jlm, j_lt, j_le, j_eq, j_add, j_mul, j_div, j_mod, j_sub, j_m1, j_nelt, j_melt, j_nele, j_mele, j_neeq, j_meeq, j_nat, j_bz0, j_bz1, jc_le0, jc_le1, jc_lt0, jc_lt1, jc_eq0, jc_eq1, Nat.not_lt_zero, Nat.zero_le, ne_eq, false_or, or_false, true_or, or_true, not_false_eq_true, not_true_eq_false, ↓reduceIte, Option.bind_some, Nat.add_sub_cancel, Nat.add_sub_cancel_left, reduceCtorEq, Option.some.injEq, Prod.mk.injEq, true_and, and_true, decide_true, decide_false, Bool.true_eq_false, Bool.false_eq_true, Bool.not_eq_true, Bool.not_eq_false, hbl, hat, hpt]; done))) | (with_reducible refine ifp ?_ ?_; (focus (simp (disch := omega) only [jlo, jl0, jl1, jl2, jl3, jl4, jl5, jl9, jl10, jl12, jl16, jl30, jl60, jl63, jl64, jl80, jl100, jl120, jl512, jlM, jlm, j_lt, j_le, j_eq, j_add, j_mul, j_div, j_mod, j_sub, j_m1, j_nelt, j_melt, j_nele, j_mele, j_neeq, j_meeq, j_nat, j_bz0, j_bz1, jc_le0, jc_le1, jc_lt0, jc_lt1, jc_eq0, jc_eq1, Nat.not_lt_zero, Nat.zero_le, ne_eq, false_or, or_false, true_or, or_true, not_false_eq_true, not_true_eq_false, ↓reduceIte, Option.bind_some, Nat.add_sub_cancel, Nat.add_sub_cancel_left, reduceCtorEq, Option.some.injEq, Prod.mk.injEq, true_and, and_true, decide_true, decide_false, Bool.true_eq_false, Bool.false_eq_true, Bool.not_eq_true, Bool.not_eq_false, hbl, hat, hpt]; done))) | (with_reducible apply bnd1; (focus ((try simp (disch := omega) only [jlo, jl0, jl1, jl2, jl3, jl4, jl5, jl9, jl10, jl12, jl16, jl30, jl60, jl63, jl64, jl80, jl100, jl120, jl512, jlM, jlm, j_lt, j_le, j_eq, j_add, j_mul, j_div, j_mod, j_sub, j_m1, j_nelt, j_melt, j_nele, j_mele, j_neeq, j_meeq, j_nat, j_bz0, j_bz1, jc_le0, jc_le1, jc_lt0, jc_lt1, jc_eq0, jc_eq1, Nat.not_lt_zero, Nat.zero_le, ne_eq, false_or, or_false, true_or, or_true, not_false_eq_true, not_true_eq_false, ↓reduceIte, Option.bind_some, Nat.add_sub_cancel, Nat.add_sub_cancel_left, reduceCtorEq, Option.some.injEq, Prod.mk.injEq, true_and, and_true, decide_true, decide_false, Bool.true_eq_false, Bool.false_eq_true, Bool.not_eq_true, Bool.not_eq_false, hbl, hat, hpt]); exact rfl)); with_reducible refine bnd rfl ?_)))
      simp (disch := omega) only [jlo, jl0, jl1, jl2, jl3, jl4, jl5, jl9, jl10, jl12, jl16, jl30, jl60, jl63, jl64, jl80, jl100, jl120, jl512, jlM, jlm, j_lt, j_le, j_eq, j_add, j_mul, j_div, j_mod, j_sub, j_m1, j_nelt, j_melt, j_nele, j_mele, j_neeq, j_meeq, j_nat, j_bz0, j_bz1, jc_le0, jc_le1, jc_lt0, jc_lt1, jc_eq0, jc_eq1, Nat.not_lt_zero, Nat.zero_le, ne_eq, false_or, or_false, true_or, or_true, not_false_eq_true, not_true_eq_false, ↓reduceIte, Option.bind_some, Nat.add_sub_cancel, Nat.add_sub_cancel_left, reduceCtorEq, Option.some.injEq, Prod.mk.injEq, true_and, and_true, decide_true, decide_false, Bool.true_eq_false, Bool.false_eq_true, Bool.not_eq_true, Bool.not_eq_false]
    have hs21 : Seg br (60 * 2 + (i + 1)) (enc l) := by
      rw [show 60 * 2 + (i + 1) = 60 * 2 + i + 1 by omega]
      exact hs2.2.1
    have hs22 : Seg br (60 * 2 + (i + 1 + sz l)) (enc r) := by
      rw [show 60 * 2 + (i + 1 + sz l) = 60 * 2 + i + 1 + sz l by omega]
      exact hs2.2.2
    rcases hl (U := U) (J := (upd jp n (jn kd), upd ji n jng)) (d := d) (i := i + 1) (n := n + 1) hiv hk.2.1 (by omega) (by omega) (by omega) (by omega) (by omega) hs.2.1 hs21 (by omega) with ⟨lv1, N1, T1, U1, J1, p1, e1, iv1, nx1, hp1, rp1, tr1, kj1, run1⟩ | ⟨N1, T1, U1, J1, nx1, hN1, cls1, run1⟩
    · have hN1 := iv1.1
      have h120 : nmt N1 ≤ 120 := hN1.2.2.2.1
      obtain ⟨jp1, ji1⟩ := J1
      have q1 : jp1 n = jn kd := (kj1 n (by omega)).1.trans (if_pos rfl)
      have q2 : ji1 n = jng := (kj1 n (by omega)).2.trans (if_pos rfl)
      have run1' : ∀ w v3, lp_fm_keep_26 fl (w + (1 + sz l + sz r)) T G U H (br, bl) (jp, ji) v1 (jn n) v3 (jn i) = lp_fm_keep_26 fl (w + sz r) T1 G U1 H (br, bl) (jp1, upd ji1 n (jn p1)) v1 (jn (n + 1)) (jn p1) (jn (i + 1 + sz l)) := by
        intro w v3
        obtain ⟨g, v5, hg, e⟩ := run1 (w + sz r) v3
        obtain ⟨g, rfl⟩ : ∃ g', g = g' + 1 := ⟨g - 1, by omega⟩
        rw [show w + (1 + sz l + sz r) = w + sz r + sz l + 1 by omega, pstep, e, k_left (by omega) (by omega) (by omega) q2, show i + 1 + sz l - 1 + 1 = i + 1 + sz l by omega]
      rcases hr (U := U1) (J := (jp1, upd ji1 n (jn p1))) (d := d) (i := i + 1 + sz l) (n := n + 1) iv1 hk.2.2 (by omega) (by omega) (by omega) (by omega) (by omega) hs.2.2 hs22 (by omega) with ⟨lv2, N2, T2, U2, J2, p2, e2, iv2, nx2, hp2, rp2, tr2, kj2, run2⟩ | ⟨N2, T2, U2, J2, nx2, hN2, cls2, run2⟩
      · have hN2 := iv2.1
        have h1202 : nmt N2 ≤ 120 := hN2.2.2.2.1
        have h12 : nmt N1 ≤ nmt N2 := nx2.1
        obtain ⟨jp2, ji2⟩ := J2
        have q3 : jp2 n = jn kd := (kj2 n (by omega)).1.trans q1
        have q4 : ji2 n = jn p1 := (kj2 n (by omega)).2.trans (if_pos rfl)
        have lv : lvs q (.branch kd l r) := ⟨hkk, lv1, lv2⟩
        have hk9 := lvs_okt _ lv
        have rp1' := rp_gx nx2.2.1 l rp1
        have tr1' := tr_nx nx2 tr1
        rcases b_find hfl iv2 U2 (p := jn kd) (x := jn p1) (y := jn p2) (t := .branch kd l r) (.inr ⟨kd, p1, p2, l, r, rfl, rfl, rfl, rfl, by omega, by omega, rp1', rp2⟩) (.inr ⟨kd, p1, p2, l, r, rfl, rfl, rfl, by omega, hp2, rp1', rp2, tr1', tr2, hk9, h60, hdp⟩) hk9 hdp with ⟨p3, N3, T3, U3, f1, f2, iv3, nx3, hp3, rp3, tr3⟩ | ⟨f1, U3, f2⟩
        · refine .inl ⟨lv, N3, T3, U3, (jp2, ji2), p3, ?_, iv3, nx_trans (nx_trans nx1 nx2) nx3, hp3, rp3, tr3, fun x hx => ?_, fun w v3 => ?_⟩
          · rw [fM_readNode_P]
            (repeat (first | (with_reducible refine ifn ?_ ?_; (focus (simp (disch := omega) only [jlo, jl0, jl1, jl2, jl3, jl4, jl5, jl9, jl10, jl12, jl16, jl30, jl60, jl63, jl64, jl80, jl100, jl120, jl512, jlM, jlm, j_lt, j_le, j_eq, j_add, j_mul, j_div, j_mod, j_sub, j_m1, j_nelt, j_melt, j_nele, j_mele, j_neeq, j_meeq, j_nat, j_bz0, j_bz1, jc_le0, jc_le1, jc_lt0, jc_lt1, jc_eq0, jc_eq1, Nat.not_lt_zero, Nat.zero_le, ne_eq, false_or, or_false, true_or, or_true, not_false_eq_true, not_true_eq_false, ↓reduceIte, Option.bind_some, Nat.add_sub_cancel, Nat.add_sub_cancel_left, reduceCtorEq, Option.some.injEq, Prod.mk.injEq, true_and, and_true, decide_true, decide_false, Bool.true_eq_false, Bool.false_eq_true, Bool.not_eq_true, Bool.not_eq_false, ha, hmm, hp, e1, e2, f1]; done))) | (with_reducible refine ifp ?_ ?_; (focus (simp (disch := omega) only [jlo, jl0, jl1, jl2, jl3, jl4, jl5, jl9, jl10, jl12, jl16, jl30, jl60, jl63, jl64, jl80, jl100, jl120, jl512, jlM, jlm, j_lt, j_le, j_eq, j_add, j_mul, j_div, j_mod, j_sub, j_m1, j_nelt, j_melt, j_nele, j_mele, j_neeq, j_meeq, j_nat, j_bz0, j_bz1, jc_le0, jc_le1, jc_lt0, jc_lt1, jc_eq0, jc_eq1, Nat.not_lt_zero, Nat.zero_le, ne_eq, false_or, or_false, true_or, or_true, not_false_eq_true, not_true_eq_false, ↓reduceIte, Option.bind_some, Nat.add_sub_cancel, Nat.add_sub_cancel_left, reduceCtorEq, Option.some.injEq, Prod.mk.injEq, true_and, and_true, decide_true, decide_false, Bool.true_eq_false, Bool.false_eq_true, Bool.not_eq_true, Bool.not_eq_false, ha, hmm, hp, e1, e2, f1]; done))) | (with_reducible apply bnd1; (focus ((try simp (disch := omega) only [jlo, jl0, jl1, jl2, jl3, jl4, jl5, jl9, jl10, jl12, jl16, jl30, jl60, jl63, jl64, jl80, jl100, jl120, jl512, jlM, jlm, j_lt, j_le, j_eq, j_add, j_mul, j_div, j_mod, j_sub, j_m1, j_nelt, j_melt, j_nele, j_mele, j_neeq, j_meeq, j_nat, j_bz0, j_bz1, jc_le0, jc_le1, jc_lt0, jc_lt1, jc_eq0, jc_eq1, Nat.not_lt_zero, Nat.zero_le, ne_eq, false_or, or_false, true_or, or_true, not_false_eq_true, not_true_eq_false, ↓reduceIte, Option.bind_some, Nat.add_sub_cancel, Nat.add_sub_cancel_left, reduceCtorEq, Option.some.injEq, Prod.mk.injEq, true_and, and_true, decide_true, decide_false, Bool.true_eq_false, Bool.false_eq_true, Bool.not_eq_true, Bool.not_eq_false, ha, hmm, hp, e1, e2, f1]); exact rfl)); with_reducible refine bnd rfl ?_)))
            rw [show i + 1 + sz l + sz r = i + (1 + sz l + sz r) by omega]
          · have a1 := kj1 x (by omega)
            have a2 := kj2 x (by omega)
            refine ⟨a2.1.trans (a1.1.trans (if_neg (by omega))), a2.2.trans ?_⟩
            exact (if_neg (by omega) : upd ji1 n (jn p1) x = ji1 x).trans (a1.2.trans (if_neg (by omega)))
          · obtain ⟨g, v5, hg, e⟩ := run2 w (jn p1)
            obtain ⟨g, rfl⟩ : ∃ g', g = g' + 1 := ⟨g - 1, by omega⟩
            refine ⟨g, v5, by omega, ?_⟩
            rw [run1', e, k_right (by omega) (by omega) (by omega) q3 q4 f2, show i + 1 + sz l + sz r - 1 = i + (1 + sz l + sz r) - 1 by omega]
        · refine .inr ⟨N2, T2, U3, (jp2, ji2), nx_trans nx1 nx2, hN2, fun _ => ⟨jn (i + 1 + sz l + sz r), ?_⟩, fun w v3 => ?_⟩
          · rw [fM_readNode_P]
            (repeat (first | (with_reducible refine ifn ?_ ?_; (focus (simp (disch := omega) only [jlo, jl0, jl1, jl2, jl3, jl4, jl5, jl9, jl10, jl12, jl16, jl30, jl60, jl63, jl64, jl80, jl100, jl120, jl512, jlM, jlm, j_lt, j_le, j_eq, j_add, j_mul, j_div, j_mod, j_sub, j_m1, j_nelt, j_melt, j_nele, j_mele, j_neeq, j_meeq, j_nat, j_bz0, j_bz1, jc_le0, jc_le1, jc_lt0, jc_lt1, jc_eq0, jc_eq1, Nat.not_lt_zero, Nat.zero_le, ne_eq, false_or, or_false, true_or, or_true, not_false_eq_true, not_true_eq_false, ↓reduceIte, Option.bind_some, Nat.add_sub_cancel, Nat.add_sub_cancel_left, reduceCtorEq, Option.some.injEq, Prod.mk.injEq, true_and, and_true, decide_true, decide_false, Bool.true_eq_false, Bool.false_eq_true, Bool.not_eq_true, Bool.not_eq_false, ha, hmm, hp, e1, e2, f1]; done))) | (with_reducible refine ifp ?_ ?_; (focus (simp (disch := omega) only [jlo, jl0, jl1, jl2, jl3, jl4, jl5, jl9, jl10, jl12, jl16, jl30, jl60, jl63, jl64, jl80, jl100, jl120, jl512, jlM, jlm, j_lt, j_le, j_eq, j_add, j_mul, j_div, j_mod, j_sub, j_m1, j_nelt, j_melt, j_nele, j_mele, j_neeq, j_meeq, j_nat, j_bz0, j_bz1, jc_le0, jc_le1, jc_lt0, jc_lt1, jc_eq0, jc_eq1, Nat.not_lt_zero, Nat.zero_le, ne_eq, false_or, or_false, true_or, or_true, not_false_eq_true, not_true_eq_false, ↓reduceIte, Option.bind_some, Nat.add_sub_cancel, Nat.add_sub_cancel_left, reduceCtorEq, Option.some.injEq, Prod.mk.injEq, true_and, and_true, decide_true, decide_false, Bool.true_eq_false, Bool.false_eq_true, Bool.not_eq_true, Bool.not_eq_false, ha, hmm, hp, e1, e2, f1]; done))) | (with_reducible apply bnd1; (focus ((try simp (disch := omega) only [jlo, jl0, jl1, jl2, jl3, jl4, jl5, jl9, jl10, jl12, jl16, jl30, jl60, jl63, jl64, jl80, jl100, jl120, jl512, jlM, jlm, j_lt, j_le, j_eq, j_add, j_mul, j_div, j_mod, j_sub, j_m1, j_nelt, j_melt, j_nele, j_mele, j_neeq, j_meeq, j_nat, j_bz0, j_bz1, jc_le0, jc_le1, jc_lt0, jc_lt1, jc_eq0, jc_eq1, Nat.not_lt_zero, Nat.zero_le, ne_eq, false_or, or_false, true_or, or_true, not_false_eq_true, not_true_eq_false, ↓reduceIte, Option.bind_some, Nat.add_sub_cancel, Nat.add_sub_cancel_left, reduceCtorEq, Option.some.injEq, Prod.mk.injEq, true_and, and_true, decide_true, decide_false, Bool.true_eq_false, Bool.false_eq_true, Bool.not_eq_true, Bool.not_eq_false, ha, hmm, hp, e1, e2, f1]); exact rfl)); with_reducible refine bnd rfl ?_)))
            rfl
          · obtain ⟨g, v5, hg, e⟩ := run2 w (jn p1)
            obtain ⟨g, rfl⟩ : ∃ g', g = g' + 1 + 1 := ⟨g - 2, by omega⟩
            rw [run1', e, k_right (by omega) (by omega) (by omega) q3 q4 f2]
            exact k_fail
      · refine .inr ⟨N2, T2, U2, J2, nx_trans nx1 nx2, hN2, fun lv => ?_, fun w v3 => ?_⟩
        · obtain ⟨x, e2⟩ := cls2 lv.2.2
          refine ⟨x, ?_⟩
          rw [fM_readNode_P]
          (repeat (first | (with_reducible refine ifn ?_ ?_; (focus (simp (disch := omega) only [jlo, jl0, jl1, jl2, jl3, jl4, jl5, jl9, jl10, jl12, jl16, jl30, jl60, jl63, jl64, jl80, jl100, jl120, jl512, jlM, jlm, j_lt, j_le, j_eq, j_add, j_mul, j_div, j_mod, j_sub, j_m1, j_nelt, j_melt, j_nele, j_mele, j_neeq, j_meeq, j_nat, j_bz0, j_bz1, jc_le0, jc_le1, jc_lt0, jc_lt1, jc_eq0, jc_eq1, Nat.not_lt_zero, Nat.zero_le, ne_eq, false_or, or_false, true_or, or_true, not_false_eq_true, not_true_eq_false, ↓reduceIte, Option.bind_some, Nat.add_sub_cancel, Nat.add_sub_cancel_left, reduceCtorEq, Option.some.injEq, Prod.mk.injEq, true_and, and_true, decide_true, decide_false, Bool.true_eq_false, Bool.false_eq_true, Bool.not_eq_true, Bool.not_eq_false, ha, hmm, hp, e1, e2]; done))) | (with_reducible refine ifp ?_ ?_; (focus (simp (disch := omega) only [jlo, jl0, jl1, jl2, jl3, jl4, jl5, jl9, jl10, jl12, jl16, jl30, jl60, jl63, jl64, jl80, jl100, jl120, jl512, jlM, jlm, j_lt, j_le, j_eq, j_add, j_mul, j_div, j_mod, j_sub, j_m1, j_nelt, j_melt, j_nele, j_mele, j_neeq, j_meeq, j_nat, j_bz0, j_bz1, jc_le0, jc_le1, jc_lt0, jc_lt1, jc_eq0, jc_eq1, Nat.not_lt_zero, Nat.zero_le, ne_eq, false_or, or_false, true_or, or_true, not_false_eq_true, not_true_eq_false, ↓reduceIte, Option.bind_some, Nat.add_sub_cancel, Nat.add_sub_cancel_left, reduceCtorEq, Option.some.injEq, Prod.mk.injEq, true_and, and_true, decide_true, decide_false, Bool.true_eq_false, Bool.false_eq_true, Bool.not_eq_true, Bool.not_eq_false, ha, hmm, hp, e1, e2]; done))) | (with_reducible apply bnd1; (focus ((try simp (disch := omega) only [jlo, jl0, jl1, jl2, jl3, jl4, jl5, jl9, jl10, jl12, jl16, jl30, jl60, jl63, jl64, jl80, jl100, jl120, jl512, jlM, jlm, j_lt, j_le, j_eq, j_add, j_mul, j_div, j_mod, j_sub, j_m1, j_nelt, j_melt, j_nele, j_mele, j_neeq, j_meeq, j_nat, j_bz0, j_bz1, jc_le0, jc_le1, jc_lt0, jc_lt1, jc_eq0, jc_eq1, Nat.not_lt_zero, Nat.zero_le, ne_eq, false_or, or_false, true_or, or_true, not_false_eq_true, not_true_eq_false, ↓reduceIte, Option.bind_some, Nat.add_sub_cancel, Nat.add_sub_cancel_left, reduceCtorEq, Option.some.injEq, Prod.mk.injEq, true_and, and_true, decide_true, decide_false, Bool.true_eq_false, Bool.false_eq_true, Bool.not_eq_true, Bool.not_eq_false, ha, hmm, hp, e1, e2]); exact rfl)); with_reducible refine bnd rfl ?_)))
          rfl
        · rw [run1']
          exact run2 w (jn p1)
    · refine .inr ⟨N1, T1, U1, J1, nx1, hN1, fun lv => ?_, fun w v3 => ?_⟩
      · obtain ⟨x, e1⟩ := cls1 lv.2.1
        refine ⟨x, ?_⟩
        rw [fM_readNode_P]
        (repeat (first | (with_reducible refine ifn ?_ ?_; (focus (simp (disch := omega) only [jlo, jl0, jl1, jl2, jl3, jl4, jl5, jl9, jl10, jl12, jl16, jl30, jl60, jl63, jl64, jl80, jl100, jl120, jl512, jlM, jlm, j_lt, j_le, j_eq, j_add, j_mul, j_div, j_mod, j_sub, j_m1, j_nelt, j_melt, j_nele, j_mele, j_neeq, j_meeq, j_nat, j_bz0, j_bz1, jc_le0, jc_le1, jc_lt0, jc_lt1, jc_eq0, jc_eq1, Nat.not_lt_zero, Nat.zero_le, ne_eq, false_or, or_false, true_or, or_true, not_false_eq_true, not_true_eq_false, ↓reduceIte, Option.bind_some, Nat.add_sub_cancel, Nat.add_sub_cancel_left, reduceCtorEq, Option.some.injEq, Prod.mk.injEq, true_and, and_true, decide_true, decide_false, Bool.true_eq_false, Bool.false_eq_true, Bool.not_eq_true, Bool.not_eq_false, ha, hmm, hp, e1]; done))) | (with_reducible refine ifp ?_ ?_; (focus (simp (disch := omega) only [jlo, jl0, jl1, jl2, jl3, jl4, jl5, jl9, jl10, jl12, jl16, jl30, jl60, jl63, jl64, jl80, jl100, jl120, jl512, jlM, jlm, j_lt, j_le, j_eq, j_add, j_mul, j_div, j_mod, j_sub, j_m1, j_nelt, j_melt, j_nele, j_mele, j_neeq, j_meeq, j_nat, j_bz0, j_bz1, jc_le0, jc_le1, jc_lt0, jc_lt1, jc_eq0, jc_eq1, Nat.not_lt_zero, Nat.zero_le, ne_eq, false_or, or_false, true_or, or_true, not_false_eq_true, not_true_eq_false, ↓reduceIte, Option.bind_some, Nat.add_sub_cancel, Nat.add_sub_cancel_left, reduceCtorEq, Option.some.injEq, Prod.mk.injEq, true_and, and_true, decide_true, decide_false, Bool.true_eq_false, Bool.false_eq_true, Bool.not_eq_true, Bool.not_eq_false, ha, hmm, hp, e1]; done))) | (with_reducible apply bnd1; (focus ((try simp (disch := omega) only [jlo, jl0, jl1, jl2, jl3, jl4, jl5, jl9, jl10, jl12, jl16, jl30, jl60, jl63, jl64, jl80, jl100, jl120, jl512, jlM, jlm, j_lt, j_le, j_eq, j_add, j_mul, j_div, j_mod, j_sub, j_m1, j_nelt, j_melt, j_nele, j_mele, j_neeq, j_meeq, j_nat, j_bz0, j_bz1, jc_le0, jc_le1, jc_lt0, jc_lt1, jc_eq0, jc_eq1, Nat.not_lt_zero, Nat.zero_le, ne_eq, false_or, or_false, true_or, or_true, not_false_eq_true, not_true_eq_false, ↓reduceIte, Option.bind_some, Nat.add_sub_cancel, Nat.add_sub_cancel_left, reduceCtorEq, Option.some.injEq, Prod.mk.injEq, true_and, and_true, decide_true, decide_false, Bool.true_eq_false, Bool.false_eq_true, Bool.not_eq_true, Bool.not_eq_false, ha, hmm, hp, e1]); exact rfl)); with_reducible refine bnd rfl ?_)))
        rfl
      · rw [show w + (1 + sz l + sz r) = w + sz r + sz l + 1 by omega, pstep]
        exact run1 (w + sz r) v3
