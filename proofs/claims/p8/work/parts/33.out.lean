/-- what was put out so far -/
def Ot (O : cO) (xs : List Nat) : Prop := (xs.length ≤ 60 ∧ O.1 = jn xs.length ∧ O.2.2 = jn 0 ∧ Seg O.2.1 0 xs) ∨ (60 < xs.length ∧ O.2.2 = jn 1)
theorem q_begin (O : cO) : ∃ O', fm_begin O = some O' ∧ Ot O' [] := ⟨_, rfl, .inl ⟨by decide, rfl, rfl, trivial⟩⟩
theorem q_put {O : cO} {xs : List Nat} {m : Nat} (h : Ot O xs) (hl : xs.length ≤ 60) : ∃ O', fm_put O (jn m) = some O' ∧ Ot O' (xs ++ [m]) := by
  obtain ⟨om, oo, og⟩ := O
  rcases h with ⟨h1, h2, h3, h4⟩ | ⟨h1, h2⟩
  · simp only at h2 h3 h4
    subst h2 h3
    unfold fm_put
    by_cases hc : xs.length = 60
    · refine ⟨(jn xs.length, oo, jn 1), ?_, .inr ⟨by simp only [List.length_append, List.length_cons, List.length_nil]; omega, rfl⟩⟩
      simp (disch := omega) only [jlo, jl0, jl1, jl2, jl3, jl4, jl5, jl9, jl10, jl12, jl16, jl30, jl60, jl63, jl64, jl80, jl100, jl120, jl512, jlM, jlm, j_lt, j_le, j_eq, j_add, j_mul, j_div, j_mod, j_sub, j_m1, j_nelt, j_melt, j_nele, j_mele, j_neeq, j_meeq, j_nat, j_bz0, j_bz1, jc_le0, jc_le1, jc_lt0, jc_lt1, jc_eq0, jc_eq1, Nat.not_lt_zero, Nat.zero_le, ne_eq, false_or, or_false, true_or, or_true, not_false_eq_true, not_true_eq_false, ↓reduceIte, Option.bind_some, Nat.add_sub_cancel, Nat.add_sub_cancel_left, reduceCtorEq, Option.some.injEq, Prod.mk.injEq, true_and, and_true, decide_true, decide_false, Bool.true_eq_false, Bool.false_eq_true, Bool.not_eq_true, Bool.not_eq_false]
    · refine ⟨(jn (xs.length + 1), upd oo xs.length (jn m), jn 0), ?_, .inl ⟨by simp only [List.length_append, List.length_cons, List.length_nil]; omega, ?_, ?_, ?_⟩⟩
      · simp (disch := omega) only [jlo, jl0, jl1, jl2, jl3, jl4, jl5, jl9, jl10, jl12, jl16, jl30, jl60, jl63, jl64, jl80, jl100, jl120, jl512, jlM, jlm, j_lt, j_le, j_eq, j_add, j_mul, j_div, j_mod, j_sub, j_m1, j_nelt, j_melt, j_nele, j_mele, j_neeq, j_meeq, j_nat, j_bz0, j_bz1, jc_le0, jc_le1, jc_lt0, jc_lt1, jc_eq0, jc_eq1, Nat.not_lt_zero, Nat.zero_le, ne_eq, false_or, or_false, true_or, or_true, not_false_eq_true, not_true_eq_false, ↓reduceIte, Option.bind_some, Nat.add_sub_cancel, Nat.add_sub_cancel_left, reduceCtorEq, Option.some.injEq, Prod.mk.injEq, true_and, and_true, decide_true, decide_false, Bool.true_eq_false, Bool.false_eq_true, Bool.not_eq_true, Bool.not_eq_false]
      · simp only [List.length_append, List.length_cons, List.length_nil]
      · rfl
      · refine seg_app.mpr ⟨seg_cong (fun j h5 h6 => ?_) h4, ?_, trivial⟩
        · exact if_neg (by omega)
        · exact if_pos (by omega)
  · omega
theorem ot_great {O : cO} {xs ys : List Nat} (h : Ot O xs) (hx : 60 < xs.length) : Ot O (xs ++ ys) ∧ O.2.2 = jn 1 := by
  rcases h with h | h
  · omega
  · exact ⟨.inr ⟨by rw [List.length_append]; omega, h.2⟩, h.2⟩
theorem ot_small {O : cO} {xs : List Nat} (h : Ot O xs) (hx : xs.length ≤ 60) : O.2.2 = jn 0 := by
  rcases h with h | h
  · exact h.2.2.1
  · omega
theorem q_putAll_l {fl r : Nat} {br bl : Nat → Int32} {v2 : Int32} (ys : List Nat) : ∀ {O : cO} {xs : List Nat} {i w : Nat}, Ot O xs → 60 * r + i + ys.length ≤ 5760 → Seg br (60 * r + i) ys →
    ∃ O', lp_fm_putAll_3 fl (w + 1 + ys.length) (br, bl) O (jn r) v2 (jn (i + ys.length)) (jn i) = some O' ∧ Ot O' (xs ++ ys) := by
  induction ys with
  | nil =>
    intro O xs i w ho hb hs
    refine ⟨O, ?_, by rwa [List.append_nil]⟩
    simp only [List.length_nil, Nat.add_zero] at *
    rw [lp_fm_putAll_3]
    simp (disch := omega) only [jlo, jl0, jl1, jl2, jl3, jl4, jl5, jl9, jl10, jl12, jl16, jl30, jl60, jl63, jl64, jl80, jl100, jl120, jl512, jlM, jlm, j_lt, j_le, j_eq, j_add, j_mul, j_div, j_mod, j_sub, j_m1, j_nelt, j_melt, j_nele, j_mele, j_neeq, j_meeq, j_nat, j_bz0, j_bz1, jc_le0, jc_le1, jc_lt0, jc_lt1, jc_eq0, jc_eq1, Nat.not_lt_zero, Nat.zero_le, ne_eq, false_or, or_false, true_or, or_true, not_false_eq_true, not_true_eq_false, ↓reduceIte, Option.bind_some, Nat.add_sub_cancel, Nat.add_sub_cancel_left, reduceCtorEq, Option.some.injEq, Prod.mk.injEq, true_and, and_true, decide_true, decide_false, Bool.true_eq_false, Bool.false_eq_true, Bool.not_eq_true, Bool.not_eq_false]
  | cons y ys ih =>
    intro O xs i w ho hb hs
    simp only [List.length_cons] at *
    rw [show w + 1 + (ys.length + 1) = w + 1 + ys.length + 1 by omega, lp_fm_putAll_3]
    obtain ⟨om, oo, og⟩ := O
    by_cases hx : 60 < xs.length
    · have hg := ot_great (ys := y :: ys) ho hx
      have h2 : og = jn 1 := hg.2
      refine ⟨(om, oo, og), ?_, hg.1⟩
      simp (disch := omega) only [jlo, jl0, jl1, jl2, jl3, jl4, jl5, jl9, jl10, jl12, jl16, jl30, jl60, jl63, jl64, jl80, jl100, jl120, jl512, jlM, jlm, j_lt, j_le, j_eq, j_add, j_mul, j_div, j_mod, j_sub, j_m1, j_nelt, j_melt, j_nele, j_mele, j_neeq, j_meeq, j_nat, j_bz0, j_bz1, jc_le0, jc_le1, jc_lt0, jc_lt1, jc_eq0, jc_eq1, Nat.not_lt_zero, Nat.zero_le, ne_eq, false_or, or_false, true_or, or_true, not_false_eq_true, not_true_eq_false, ↓reduceIte, Option.bind_some, Nat.add_sub_cancel, Nat.add_sub_cancel_left, reduceCtorEq, Option.some.injEq, Prod.mk.injEq, true_and, and_true, decide_true, decide_false, Bool.true_eq_false, Bool.false_eq_true, Bool.not_eq_true, Bool.not_eq_false, h2]
    · have h2 : og = jn 0 := ot_small ho (by omega)
      have h1 : br (60 * r + i) = jn y := hs.1
      obtain ⟨O1, e1, ho1⟩ := q_put (m := y) ho (by omega)
      obtain ⟨O2, e2, ho2⟩ := ih (i := i + 1) (w := w) ho1 (by omega) (by rw [show 60 * r + (i + 1) = 60 * r + i + 1 by omega]; exact hs.2)
      refine ⟨O2, ?_, by rwa [List.append_assoc] at ho2⟩
      subst h2
      simp (disch := omega) only [jlo, jl0, jl1, jl2, jl3, jl4, jl5, jl9, jl10, jl12, jl16, jl30, jl60, jl63, jl64, jl80, jl100, jl120, jl512, jlM, jlm, j_lt, j_le, j_eq, j_add, j_mul, j_div, j_mod, j_sub, j_m1, j_nelt, j_melt, j_nele, j_mele, j_neeq, j_meeq, j_nat, j_bz0, j_bz1, jc_le0, jc_le1, jc_lt0, jc_lt1, jc_eq0, jc_eq1, Nat.not_lt_zero, Nat.zero_le, ne_eq, false_or, or_false, true_or, or_true, not_false_eq_true, not_true_eq_false, ↓reduceIte, Option.bind_some, Nat.add_sub_cancel, Nat.add_sub_cancel_left, reduceCtorEq, Option.some.injEq, Prod.mk.injEq, true_and, and_true, decide_true, decide_false, Bool.true_eq_false, Bool.false_eq_true, Bool.not_eq_true, Bool.not_eq_false, q_at, h1, e1]
      rw [show i + (ys.length + 1) = i + 1 + ys.length by omega]
      exact e2
theorem q_putAll {fl : Nat} (hfl : 10000 ≤ fl) {r i e : Nat} {B : cB} {O : cO} {xs ys : List Nat} (he : e = i + ys.length) (ho : Ot O xs) (hb : 60 * r + i + ys.length ≤ 5760) (hs : Seg B.1 (60 * r + i) ys) :
    ∃ O', fm_putAll fl B O (jn r) (jn i) (jn e) = some O' ∧ Ot O' (xs ++ ys) := by
  obtain ⟨br, bl⟩ := B
  obtain ⟨O', e', h'⟩ := q_putAll_l (fl := fl) (bl := bl) (v2 := jn i) (w := fl - 1 - ys.length) ys ho hb hs
  refine ⟨O', ?_, h'⟩
  rw [show fl - 1 - ys.length + 1 + ys.length = fl by omega] at e'
  subst he
  exact e'
theorem great_stop {fl w : Nat} {B : cB} {O : cO} {J : cJ} {v1 v2 v3 v4 v5 v6 : Int32} (h : O.2.2 = jn 1) : lp_fm_putRaised_13 fl (w + 1) B O J v1 v2 v3 v4 v5 v6 = some (O, J) := by
  obtain ⟨om, oo, og⟩ := O
  obtain ⟨jp, ji⟩ := J
  have h : og = jn 1 := h
  subst h
  rw [lp_fm_putRaised_13]
  simp (disch := omega) only [jlo, jl0, jl1, jl2, jl3, jl4, jl5, jl9, jl10, jl12, jl16, jl30, jl60, jl63, jl64, jl80, jl100, jl120, jl512, jlM, jlm, j_lt, j_le, j_eq, j_add, j_mul, j_div, j_mod, j_sub, j_m1, j_nelt, j_melt, j_nele, j_mele, j_neeq, j_meeq, j_nat, j_bz0, j_bz1, jc_le0, jc_le1, jc_lt0, jc_lt1, jc_eq0, jc_eq1, Nat.not_lt_zero, Nat.zero_le, ne_eq, false_or, or_false, true_or, or_true, not_false_eq_true, not_true_eq_false, ↓reduceIte, Option.bind_some, Nat.add_sub_cancel, Nat.add_sub_cancel_left, reduceCtorEq, Option.some.injEq, Prod.mk.injEq, true_and, and_true, decide_true, decide_false, Bool.true_eq_false, Bool.false_eq_true, Bool.not_eq_true, Bool.not_eq_false]
  split <;> rfl
/-- putRaised along a part -/
theorem q_putRaised_t (fl : Nat) (t : tm) : ∀ {br bl jp ji : Nat → Int32} {O : cO} {xs : List Nat} {r i n b by' e : Nat} {v2 : Int32}, wft t → Ot O xs → xs.length ≤ 60 → i + sz t ≤ e → e ≤ 60 → r < 96 → by' < 1000 → Seg br (60 * r + i) (enc t) → n + sz t ≤ 120 → ji n = jn b → b + sz t < 900 →
    (∃ O' ji', (∀ w, lp_fm_putRaised_13 fl (w + sz t) (br, bl) O (jp, ji) (jn r) v2 (jn e) (jn by') (jn (n + 1)) (jn i) = lp_fm_putRaised_13 fl w (br, bl) O' (jp, ji') (jn r) v2 (jn e) (jn by') (jn n) (jn (i + sz t))) ∧ Ot O' (xs ++ enc (shf by' b t)) ∧ xs.length + sz t ≤ 60 ∧ ∀ j, j < n → ji' j = ji j) ∨
    (∃ O' ji', (∀ w, lp_fm_putRaised_13 fl (w + sz t + 1) (br, bl) O (jp, ji) (jn r) v2 (jn e) (jn by') (jn (n + 1)) (jn i) = some (O', (jp, ji'))) ∧ O'.2.2 = jn 1 ∧ 60 < xs.length + sz t) := by
  induction t with
  | leaf m =>
    intro br bl jp ji O xs r i n b by' e v2 hw ho hx hi h60 hr hby hs hn hj hd
    simp only [sz, wft, shf] at *
    have h1 : br (60 * r + i) = jn m := hs.1
    have hq := q_parts (m := m) (by omega)
    rw [decide_eq_false (by omega)] at hq
    have hg := ot_small ho hx
    have key : ∃ m' O1, m' = (if m % 10 = 0 ∧ b ≤ m / 10 then m + 10 * by' else m) ∧ fm_put O (jn m') = some O1 ∧ Ot O1 (xs ++ [m']) ∧ ∀ w, lp_fm_putRaised_13 fl (w + 1) (br, bl) O (jp, ji) (jn r) v2 (jn e) (jn by') (jn (n + 1)) (jn i) = lp_fm_putRaised_13 fl w (br, bl) O1 (jp, ji) (jn r) v2 (jn e) (jn by') (jn n) (jn (i + 1)) := by
      obtain ⟨O1, e1, ho1⟩ := q_put (m := if m % 10 = 0 ∧ b ≤ m / 10 then m + 10 * by' else m) ho hx
      refine ⟨_, O1, rfl, e1, ho1, ?_⟩
      intro w
      rw [lp_fm_putRaised_13]
      obtain ⟨om, oo, og⟩ := O
      have hg : og = jn 0 := hg
      subst hg
      by_cases c1 : m % 10 = 0
      · by_cases c2 : b ≤ m / 10
        · rw [if_pos ⟨c1, c2⟩] at e1
          simp (disch := omega) only [jlo, jl0, jl1, jl2, jl3, jl4, jl5, jl9, jl10, jl12, jl16, jl30, jl60, jl63, jl64, jl80, jl100, jl120, jl512, jlM, jlm, j_lt, j_le, j_eq, j_add, j_mul, j_div, j_mod, j_sub, j_m1, j_nelt, j_melt, j_nele, j_mele, j_neeq, j_meeq, j_nat, j_bz0, j_bz1, jc_le0, jc_le1, jc_lt0, jc_lt1, jc_eq0, jc_eq1, Nat.not_lt_zero, Nat.zero_le, ne_eq, false_or, or_false, true_or, or_true, not_false_eq_true, not_true_eq_false, ↓reduceIte, Option.bind_some, Nat.add_sub_cancel, Nat.add_sub_cancel_left, reduceCtorEq, Option.some.injEq, Prod.mk.injEq, true_and, and_true, decide_true, decide_false, Bool.true_eq_false, Bool.false_eq_true, Bool.not_eq_true, Bool.not_eq_false, q_at, h1, hq, hj, q_kind, e1]
        · rw [if_neg (fun h => c2 h.2)] at e1
          simp (disch := omega) only [jlo, jl0, jl1, jl2, jl3, jl4, jl5, jl9, jl10, jl12, jl16, jl30, jl60, jl63, jl64, jl80, jl100, jl120, jl512, jlM, jlm, j_lt, j_le, j_eq, j_add, j_mul, j_div, j_mod, j_sub, j_m1, j_nelt, j_melt, j_nele, j_mele, j_neeq, j_meeq, j_nat, j_bz0, j_bz1, jc_le0, jc_le1, jc_lt0, jc_lt1, jc_eq0, jc_eq1, Nat.not_lt_zero, Nat.zero_le, ne_eq, false_or, or_false, true_or, or_true, not_false_eq_true, not_true_eq_false, ↓reduceIte, Option.bind_some, Nat.add_sub_cancel, Nat.add_sub_cancel_left, reduceCtorEq, Option.some.injEq, Prod.mk.injEq, true_and, and_true, decide_true, decide_false, Bool.true_eq_false, Bool.false_eq_true, Bool.not_eq_true, Bool.not_eq_false, q_at, h1, hq, hj, q_kind, e1]
      · rw [if_neg (fun h => c1 h.1)] at e1
        simp (disch := omega) only [jlo, jl0, jl1, jl2, jl3, jl4, jl5, jl9, jl10, jl12, jl16, jl30, jl60, jl63, jl64, jl80, jl100, jl120, jl512, jlM, jlm, j_lt, j_le, j_eq, j_add, j_mul, j_div, j_mod, j_sub, j_m1, j_nelt, j_melt, j_nele, j_mele, j_neeq, j_meeq, j_nat, j_bz0, j_bz1, jc_le0, jc_le1, jc_lt0, jc_lt1, jc_eq0, jc_eq1, Nat.not_lt_zero, Nat.zero_le, ne_eq, false_or, or_false, true_or, or_true, not_false_eq_true, not_true_eq_false, ↓reduceIte, Option.bind_some, Nat.add_sub_cancel, Nat.add_sub_cancel_left, reduceCtorEq, Option.some.injEq, Prod.mk.injEq, true_and, and_true, decide_true, decide_false, Bool.true_eq_false, Bool.false_eq_true, Bool.not_eq_true, Bool.not_eq_false, q_at, h1, hq, hj, q_kind, e1]
    obtain ⟨m', O1, em, e1, ho1, he⟩ := key
    have hes : enc (if m % 10 = 0 ∧ b ≤ m / 10 then Lean.RArray.leaf (m + 10 * by') else Lean.RArray.leaf m) = [m'] := by
      rw [em]
      split <;> rfl
    rw [hes]
    by_cases hc : xs.length + 1 ≤ 60
    · exact .inl ⟨O1, ji, he, ho1, hc, fun _ _ => rfl⟩
    · refine .inr ⟨O1, ji, ?_, (ot_great (ys := []) ho1 (by simp only [List.length_append, List.length_cons, List.length_nil]; omega)).2, by omega⟩
      intro w
      rw [he, great_stop (ot_great (ys := []) ho1 (by simp only [List.length_append, List.length_cons, List.length_nil]; omega)).2]
  | branch k l r' hl hr' =>
    intro br bl jp ji O xs r i n b by' e v2 hw ho hx hi h60 hr hby hs hn hj hd
    have hs := seg_t.mp hs
    simp only [sz, wft, shf] at *
    have hpl := sz_pos l
    have hpr := sz_pos r'
    have hbk := bi_le k
    have h1 : br (60 * r + i) = jn k := hs.1
    have hq := q_parts (m := k) (by omega)
    rw [decide_eq_true (by omega)] at hq
    have hg := ot_small ho hx
    obtain ⟨O1, e1, ho1⟩ := q_put (m := k) ho hx
    have he : ∀ w, lp_fm_putRaised_13 fl (w + 1) (br, bl) O (jp, ji) (jn r) v2 (jn e) (jn by') (jn (n + 1)) (jn i) = lp_fm_putRaised_13 fl w (br, bl) O1 (jp, upd (upd ji n (jn (b + bi k))) (n + 1) (jn b)) (jn r) v2 (jn e) (jn by') (jn (n + 1 + 1)) (jn (i + 1)) := by
      intro w
      rw [lp_fm_putRaised_13]
      obtain ⟨om, oo, og⟩ := O
      have hg : og = jn 0 := hg
      subst hg
      have hb := q_binds (m := k) (by omega)
      by_cases hk : k = 4
      · rw [decide_eq_false (by omega)] at hb
        have hbi : bi k = 0 := if_pos hk
        simp (disch := omega) only [jlo, jl0, jl1, jl2, jl3, jl4, jl5, jl9, jl10, jl12, jl16, jl30, jl60, jl63, jl64, jl80, jl100, jl120, jl512, jlM, jlm, j_lt, j_le, j_eq, j_add, j_mul, j_div, j_mod, j_sub, j_m1, j_nelt, j_melt, j_nele, j_mele, j_neeq, j_meeq, j_nat, j_bz0, j_bz1, jc_le0, jc_le1, jc_lt0, jc_lt1, jc_eq0, jc_eq1, Nat.not_lt_zero, Nat.zero_le, ne_eq, false_or, or_false, true_or, or_true, not_false_eq_true, not_true_eq_false, ↓reduceIte, Option.bind_some, Nat.add_sub_cancel, Nat.add_sub_cancel_left, reduceCtorEq, Option.some.injEq, Prod.mk.injEq, true_and, and_true, decide_true, decide_false, Bool.true_eq_false, Bool.false_eq_true, Bool.not_eq_true, Bool.not_eq_false, q_at, h1, hq, hj, q_kind, e1, hb, hbi, Nat.add_zero]
      · rw [decide_eq_true (by omega)] at hb
        have hbi : bi k = 1 := if_neg hk
        simp (disch := omega) only [jlo, jl0, jl1, jl2, jl3, jl4, jl5, jl9, jl10, jl12, jl16, jl30, jl60, jl63, jl64, jl80, jl100, jl120, jl512, jlM, jlm, j_lt, j_le, j_eq, j_add, j_mul, j_div, j_mod, j_sub, j_m1, j_nelt, j_melt, j_nele, j_mele, j_neeq, j_meeq, j_nat, j_bz0, j_bz1, jc_le0, jc_le1, jc_lt0, jc_lt1, jc_eq0, jc_eq1, Nat.not_lt_zero, Nat.zero_le, ne_eq, false_or, or_false, true_or, or_true, not_false_eq_true, not_true_eq_false, ↓reduceIte, Option.bind_some, Nat.add_sub_cancel, Nat.add_sub_cancel_left, reduceCtorEq, Option.some.injEq, Prod.mk.injEq, true_and, and_true, decide_true, decide_false, Bool.true_eq_false, Bool.false_eq_true, Bool.not_eq_true, Bool.not_eq_false, q_at, h1, hq, hj, q_kind, e1, hb, hbi]
    by_cases hc : xs.length + 1 ≤ 60
    · rcases hl (br := br) (bl := bl) (jp := jp) (ji := upd (upd ji n (jn (b + bi k))) (n + 1) (jn b)) (O := O1) (xs := xs ++ [k]) (r := r) (i := i + 1) (n := n + 1) (b := b) (by' := by') (e := e) (v2 := v2) hw.2.1 ho1 (by simp only [List.length_append, List.length_cons, List.length_nil]; omega) (by omega) h60 hr hby
        (by rw [show 60 * r + (i + 1) = 60 * r + i + 1 by omega]; exact hs.2.1) (by omega) (by rw [j_upd, if_pos rfl]) (by omega) with ⟨O2, ji2, e2, ho2, hl2, k2⟩ | ⟨O2, ji2, e2, ho2, hl2⟩
      · simp only [List.length_append, List.length_cons, List.length_nil] at hl2
        rcases hr' (br := br) (bl := bl) (jp := jp) (ji := ji2) (O := O2) (xs := xs ++ [k] ++ enc (shf by' b l)) (r := r) (i := i + 1 + sz l) (n := n) (b := b + bi k) (by' := by') (e := e) (v2 := v2) hw.2.2 ho2 (by simp only [List.length_append, List.length_cons, List.length_nil, enc_len, (sz_shf l).1]; omega) (by omega) h60 hr hby
          (by rw [show 60 * r + (i + 1 + sz l) = 60 * r + i + 1 + sz l by omega]; exact hs.2.2) (by omega) (by rw [k2 n (by omega), j_upd, if_neg (by omega), j_upd, if_pos rfl]) (by omega) with ⟨O3, ji3, e3, ho3, hl3, k3⟩ | ⟨O3, ji3, e3, ho3, hl3⟩
        · refine .inl ⟨O3, ji3, ?_, ?_, ?_, ?_⟩
          · intro w
            rw [show w + (1 + sz l + sz r') = w + sz r' + sz l + 1 by omega, he, e2, e3, show i + 1 + sz l + sz r' = i + (1 + sz l + sz r') by omega]
          · simp only [enc]
            simpa only [List.append_assoc, List.cons_append, List.nil_append] using ho3
          · simp only [List.length_append, List.length_cons, List.length_nil, enc_len, (sz_shf l).1] at hl3
            omega
          · intro j hjn
            rw [k3 j hjn, k2 j (by omega), j_upd, if_neg (by omega), j_upd, if_neg (by omega)]
        · refine .inr ⟨O3, ji3, ?_, ho3, ?_⟩
          · intro w
            rw [show w + (1 + sz l + sz r') + 1 = w + sz r' + 1 + sz l + 1 by omega, he, e2, e3]
          · simp only [List.length_append, List.length_cons, List.length_nil, enc_len, (sz_shf l).1] at hl3
            omega
      · refine .inr ⟨O2, ji2, ?_, ho2, ?_⟩
        · intro w
          rw [show w + (1 + sz l + sz r') + 1 = w + sz r' + sz l + 1 + 1 by omega, he, e2]
        · simp only [List.length_append, List.length_cons, List.length_nil] at hl2
          omega
    · refine .inr ⟨O1, upd (upd ji n (jn (b + bi k))) (n + 1) (jn b), ?_, (ot_great (ys := []) ho1 (by simp only [List.length_append, List.length_cons, List.length_nil]; omega)).2, by omega⟩
      · intro w
        rw [show w + (1 + sz l + sz r') + 1 = w + (sz l + sz r') + 1 + 1 by omega, he, great_stop (ot_great (ys := []) ho1 (by simp only [List.length_append, List.length_cons, List.length_nil]; omega)).2]
theorem q_putRaised {fl : Nat} (hfl : 10000 ≤ fl) {t : tm} {B : cB} {jp ji : Nat → Int32} {O : cO} {xs : List Nat} {r i e d : Nat} (he : e = i + sz t) (hw : wft t) (ho : Ot O xs) (hx : xs.length ≤ 60) (h60 : e ≤ 60) (hr : r < 96) (hd : d < 1000) (hs : Seg B.1 (60 * r + i) (enc t)) :
    ∃ O' ji', fm_putRaised fl B O (jp, ji) (jn r) (jn i) (jn e) (jn d) = some (O', (jp, ji')) ∧ Ot O' (xs ++ enc (shf d 0 t)) := by
  obtain ⟨br, bl⟩ := B
  unfold fm_putRaised
  simp (disch := omega) only [jlo, jl0, jl1, jl2, jl3, jl4, jl5, jl9, jl10, jl12, jl16, jl30, jl60, jl63, jl64, jl80, jl100, jl120, jl512, jlM, jlm, j_lt, j_le, j_eq, j_add, j_mul, j_div, j_mod, j_sub, j_m1, j_nelt, j_melt, j_nele, j_mele, j_neeq, j_meeq, j_nat, j_bz0, j_bz1, jc_le0, jc_le1, jc_lt0, jc_lt1, jc_eq0, jc_eq1, Nat.not_lt_zero, Nat.zero_le, ne_eq, false_or, or_false, true_or, or_true, not_false_eq_true, not_true_eq_false, ↓reduceIte, Option.bind_some, Nat.add_sub_cancel, Nat.add_sub_cancel_left, reduceCtorEq, Option.some.injEq, Prod.mk.injEq, true_and, and_true, decide_true, decide_false, Bool.true_eq_false, Bool.false_eq_true, Bool.not_eq_true, Bool.not_eq_false]
  rcases q_putRaised_t fl t (br := br) (bl := bl) (jp := jp) (ji := upd ji 0 (jn 0)) (O := O) (xs := xs) (r := r) (i := i) (n := 0) (b := 0) (by' := d) (e := e) (v2 := jn i) hw ho hx (by omega) h60 hr hd hs (by omega) (by rw [j_upd, if_pos rfl]) (by omega) with ⟨O2, ji2, e2, ho2, hl2, k2⟩ | ⟨O2, ji2, e2, ho2, hl2⟩
  · have := e2 (fl - 1 - sz t + 1)
    rw [show fl - 1 - sz t + 1 + sz t = fl by omega] at this
    refine ⟨O2, ji2, ?_, ho2⟩
    rw [show (0 : Nat) + 1 = 1 from rfl] at this
    rw [this, lp_fm_putRaised_13]
    simp (disch := omega) only [jlo, jl0, jl1, jl2, jl3, jl4, jl5, jl9, jl10, jl12, jl16, jl30, jl60, jl63, jl64, jl80, jl100, jl120, jl512, jlM, jlm, j_lt, j_le, j_eq, j_add, j_mul, j_div, j_mod, j_sub, j_m1, j_nelt, j_melt, j_nele, j_mele, j_neeq, j_meeq, j_nat, j_bz0, j_bz1, jc_le0, jc_le1, jc_lt0, jc_lt1, jc_eq0, jc_eq1, Nat.not_lt_zero, Nat.zero_le, ne_eq, false_or, or_false, true_or, or_true, not_false_eq_true, not_true_eq_false, ↓reduceIte, Option.bind_some, Nat.add_sub_cancel, Nat.add_sub_cancel_left, reduceCtorEq, Option.some.injEq, Prod.mk.injEq, true_and, and_true, decide_true, decide_false, Bool.true_eq_false, Bool.false_eq_true, Bool.not_eq_true, Bool.not_eq_false]
  · have := e2 (fl - 1 - sz t)
    rw [show fl - 1 - sz t + sz t + 1 = fl by omega] at this
    refine ⟨O2, ji2, this, .inr ⟨?_, ho2⟩⟩
    rw [List.length_append, enc_len, (sz_shf t).1]
    exact hl2
theorem great_stop2 {fl w : Nat} {B : cB} {O : cO} {J : cJ} {v1 v2 v3 v4 v5 v6 v7 v8 : Int32} (h : O.2.2 = jn 1) : lp_fm_putFor_13 fl (w + 1) B O J v1 v2 v3 v4 v5 v6 v7 v8 = some (O, J) := by
  obtain ⟨om, oo, og⟩ := O
  obtain ⟨jp, ji⟩ := J
  have h : og = jn 1 := h
  subst h
  rw [lp_fm_putFor_13]
  simp (disch := omega) only [jlo, jl0, jl1, jl2, jl3, jl4, jl5, jl9, jl10, jl12, jl16, jl30, jl60, jl63, jl64, jl80, jl100, jl120, jl512, jlM, jlm, j_lt, j_le, j_eq, j_add, j_mul, j_div, j_mod, j_sub, j_m1, j_nelt, j_melt, j_nele, j_mele, j_neeq, j_meeq, j_nat, j_bz0, j_bz1, jc_le0, jc_le1, jc_lt0, jc_lt1, jc_eq0, jc_eq1, Nat.not_lt_zero, Nat.zero_le, ne_eq, false_or, or_false, true_or, or_true, not_false_eq_true, not_true_eq_false, ↓reduceIte, Option.bind_some, Nat.add_sub_cancel, Nat.add_sub_cancel_left, reduceCtorEq, Option.some.injEq, Prod.mk.injEq, true_and, and_true, decide_true, decide_false, Bool.true_eq_false, Bool.false_eq_true, Bool.not_eq_true, Bool.not_eq_false]
  split <;> rfl
/-- putFor along a part -/
theorem q_putFor_t {fl : Nat} (hfl : 10000 ≤ fl) {x : tm} {rx xb xe : Nat} (hxw : wft x) (hxe : xe = xb + sz x) (hx60 : xe ≤ 60) (hrx : rx < 96) (t : tm) : ∀ {br bl jp ji : Nat → Int32} {O : cO} {xs : List Nat} {r i n b e : Nat} {v2 : Int32}, Seg br (60 * rx + xb) (enc x) → wft t → Ot O xs → xs.length ≤ 60 → i + sz t ≤ e → e ≤ 60 → r < 96 → Seg br (60 * r + i) (enc t) → n + sz t ≤ 120 → jp n = jn b → b + sz t < 900 →
    (∃ O' jp' ji', (∀ w, lp_fm_putFor_13 fl (w + sz t) (br, bl) O (jp, ji) (jn r) v2 (jn e) (jn rx) (jn xb) (jn xe) (jn (n + 1)) (jn i) = lp_fm_putFor_13 fl w (br, bl) O' (jp', ji') (jn r) v2 (jn e) (jn rx) (jn xb) (jn xe) (jn n) (jn (i + sz t))) ∧ Ot O' (xs ++ enc (sbs x b t)) ∧ xs.length + sz (sbs x b t) ≤ 60 ∧ ∀ j, j < n → jp' j = jp j) ∨
    (∃ O' jp' ji', (∀ w, lp_fm_putFor_13 fl (w + sz t + 1) (br, bl) O (jp, ji) (jn r) v2 (jn e) (jn rx) (jn xb) (jn xe) (jn (n + 1)) (jn i) = some (O', (jp', ji'))) ∧ O'.2.2 = jn 1 ∧ 60 < xs.length + sz (sbs x b t)) := by
  induction t with
  | leaf m =>
    intro br bl jp ji O xs r i n b e v2 hsx hw ho hx hi h60 hr hs hn hj hd
    simp only [sz, wft] at *
    have h1 : br (60 * r + i) = jn m := hs.1
    have hq := q_parts (m := m) (by omega)
    rw [decide_eq_false (by omega)] at hq
    have hg := ot_small ho hx
    have key : ∃ O1 ji1, Ot O1 (xs ++ enc (sbs x b (.leaf m))) ∧ ∀ w, lp_fm_putFor_13 fl (w + 1) (br, bl) O (jp, ji) (jn r) v2 (jn e) (jn rx) (jn xb) (jn xe) (jn (n + 1)) (jn i) = lp_fm_putFor_13 fl w (br, bl) O1 (jp, ji1) (jn r) v2 (jn e) (jn rx) (jn xb) (jn xe) (jn n) (jn (i + 1)) := by
      simp only [sbs]
      by_cases c1 : m % 10 = 0
      · rw [if_pos c1]
        by_cases c2 : m / 10 < b
        · rw [if_pos c2]
          obtain ⟨O1, e1, ho1⟩ := q_put (m := m) ho hx
          refine ⟨O1, ji, ho1, ?_⟩
          intro w
          rw [lp_fm_putFor_13]
          obtain ⟨om, oo, og⟩ := O
          have hg : og = jn 0 := hg
          subst hg
          simp (disch := omega) only [jlo, jl0, jl1, jl2, jl3, jl4, jl5, jl9, jl10, jl12, jl16, jl30, jl60, jl63, jl64, jl80, jl100, jl120, jl512, jlM, jlm, j_lt, j_le, j_eq, j_add, j_mul, j_div, j_mod, j_sub, j_m1, j_nelt, j_melt, j_nele, j_mele, j_neeq, j_meeq, j_nat, j_bz0, j_bz1, jc_le0, jc_le1, jc_lt0, jc_lt1, jc_eq0, jc_eq1, Nat.not_lt_zero, Nat.zero_le, ne_eq, false_or, or_false, true_or, or_true, not_false_eq_true, not_true_eq_false, ↓reduceIte, Option.bind_some, Nat.add_sub_cancel, Nat.add_sub_cancel_left, reduceCtorEq, Option.some.injEq, Prod.mk.injEq, true_and, and_true, decide_true, decide_false, Bool.true_eq_false, Bool.false_eq_true, Bool.not_eq_true, Bool.not_eq_false, q_at, h1, hq, hj, q_kind, e1]
        · rw [if_neg c2]
          by_cases c3 : m / 10 = b
          · rw [if_pos c3]
            obtain ⟨O1, ji1, e1, ho1⟩ := q_putRaised hfl (B := (br, bl)) (jp := jp) (ji := ji) (d := b) hxe hxw ho hx hx60 hrx (by omega) hsx
            refine ⟨O1, ji1, ho1, ?_⟩
            intro w
            rw [lp_fm_putFor_13]
            obtain ⟨om, oo, og⟩ := O
            have hg : og = jn 0 := hg
            subst hg
            simp (disch := omega) only [jlo, jl0, jl1, jl2, jl3, jl4, jl5, jl9, jl10, jl12, jl16, jl30, jl60, jl63, jl64, jl80, jl100, jl120, jl512, jlM, jlm, j_lt, j_le, j_eq, j_add, j_mul, j_div, j_mod, j_sub, j_m1, j_nelt, j_melt, j_nele, j_mele, j_neeq, j_meeq, j_nat, j_bz0, j_bz1, jc_le0, jc_le1, jc_lt0, jc_lt1, jc_eq0, jc_eq1, Nat.not_lt_zero, Nat.zero_le, ne_eq, false_or, or_false, true_or, or_true, not_false_eq_true, not_true_eq_false, ↓reduceIte, Option.bind_some, Nat.add_sub_cancel, Nat.add_sub_cancel_left, reduceCtorEq, Option.some.injEq, Prod.mk.injEq, true_and, and_true, decide_true, decide_false, Bool.true_eq_false, Bool.false_eq_true, Bool.not_eq_true, Bool.not_eq_false, q_at, h1, hq, hj, q_kind, e1, c3]
          · rw [if_neg c3]
            obtain ⟨O1, e1, ho1⟩ := q_put (m := m - 10) ho hx
            refine ⟨O1, ji, ho1, ?_⟩
            intro w
            rw [lp_fm_putFor_13]
            obtain ⟨om, oo, og⟩ := O
            have hg : og = jn 0 := hg
            subst hg
            simp (disch := omega) only [jlo, jl0, jl1, jl2, jl3, jl4, jl5, jl9, jl10, jl12, jl16, jl30, jl60, jl63, jl64, jl80, jl100, jl120, jl512, jlM, jlm, j_lt, j_le, j_eq, j_add, j_mul, j_div, j_mod, j_sub, j_m1, j_nelt, j_melt, j_nele, j_mele, j_neeq, j_meeq, j_nat, j_bz0, j_bz1, jc_le0, jc_le1, jc_lt0, jc_lt1, jc_eq0, jc_eq1, Nat.not_lt_zero, Nat.zero_le, ne_eq, false_or, or_false, true_or, or_true, not_false_eq_true, not_true_eq_false, ↓reduceIte, Option.bind_some, Nat.add_sub_cancel, Nat.add_sub_cancel_left, reduceCtorEq, Option.some.injEq, Prod.mk.injEq, true_and, and_true, decide_true, decide_false, Bool.true_eq_false, Bool.false_eq_true, Bool.not_eq_true, Bool.not_eq_false, q_at, h1, hq, hj, q_kind, e1]
      · rw [if_neg c1]
        obtain ⟨O1, e1, ho1⟩ := q_put (m := m) ho hx
        refine ⟨O1, ji, ho1, ?_⟩
        intro w
        rw [lp_fm_putFor_13]
        obtain ⟨om, oo, og⟩ := O
        have hg : og = jn 0 := hg
        subst hg
        simp (disch := omega) only [jlo, jl0, jl1, jl2, jl3, jl4, jl5, jl9, jl10, jl12, jl16, jl30, jl60, jl63, jl64, jl80, jl100, jl120, jl512, jlM, jlm, j_lt, j_le, j_eq, j_add, j_mul, j_div, j_mod, j_sub, j_m1, j_nelt, j_melt, j_nele, j_mele, j_neeq, j_meeq, j_nat, j_bz0, j_bz1, jc_le0, jc_le1, jc_lt0, jc_lt1, jc_eq0, jc_eq1, Nat.not_lt_zero, Nat.zero_le, ne_eq, false_or, or_false, true_or, or_true, not_false_eq_true, not_true_eq_false, ↓reduceIte, Option.bind_some, Nat.add_sub_cancel, Nat.add_sub_cancel_left, reduceCtorEq, Option.some.injEq, Prod.mk.injEq, true_and, and_true, decide_true, decide_false, Bool.true_eq_false, Bool.false_eq_true, Bool.not_eq_true, Bool.not_eq_false, q_at, h1, hq, hj, q_kind, e1]
    obtain ⟨O1, ji1, ho1, he⟩ := key
    by_cases hc : xs.length + sz (sbs x b (.leaf m)) ≤ 60
    · exact .inl ⟨O1, jp, ji1, he, ho1, hc, fun _ _ => rfl⟩
    · have hg1 := (ot_great (ys := []) ho1 (by simp only [List.length_append, enc_len]; omega)).2
      refine .inr ⟨O1, jp, ji1, ?_, hg1, by omega⟩
      intro w
      rw [he, great_stop2 hg1]
  | branch k l r' hl hr' =>
    intro br bl jp ji O xs r i n b e v2 hsx hw ho hx hi h60 hr hs hn hj hd
    have hs := seg_t.mp hs
    simp only [sz, wft, sbs] at *
    have hpl := sz_pos l
    have hpr := sz_pos r'
    have hpl2 := sz_pos (sbs x b l)
    have hpr2 := sz_pos (sbs x (b + bi k) r')
    have hbk := bi_le k
    have h1 : br (60 * r + i) = jn k := hs.1
    have hq := q_parts (m := k) (by omega)
    rw [decide_eq_true (by omega)] at hq
    have hg := ot_small ho hx
    obtain ⟨O1, e1, ho1⟩ := q_put (m := k) ho hx
    have he : ∀ w, lp_fm_putFor_13 fl (w + 1) (br, bl) O (jp, ji) (jn r) v2 (jn e) (jn rx) (jn xb) (jn xe) (jn (n + 1)) (jn i) = lp_fm_putFor_13 fl w (br, bl) O1 (upd (upd jp n (jn (b + bi k))) (n + 1) (jn b), ji) (jn r) v2 (jn e) (jn rx) (jn xb) (jn xe) (jn (n + 1 + 1)) (jn (i + 1)) := by
      intro w
      rw [lp_fm_putFor_13]
      obtain ⟨om, oo, og⟩ := O
      have hg : og = jn 0 := hg
      subst hg
      have hb := q_binds (m := k) (by omega)
      by_cases hk : k = 4
      · rw [decide_eq_false (by omega)] at hb
        have hbi : bi k = 0 := if_pos hk
        simp (disch := omega) only [jlo, jl0, jl1, jl2, jl3, jl4, jl5, jl9, jl10, jl12, jl16, jl30, jl60, jl63, jl64, jl80, jl100, jl120, jl512, jlM, jlm, j_lt, j_le, j_eq, j_add, j_mul, j_div, j_mod, j_sub, j_m1, j_nelt, j_melt, j_nele, j_mele, j_neeq, j_meeq, j_nat, j_bz0, j_bz1, jc_le0, jc_le1, jc_lt0, jc_lt1, jc_eq0, jc_eq1, Nat.not_lt_zero, Nat.zero_le, ne_eq, false_or, or_false, true_or, or_true, not_false_eq_true, not_true_eq_false, ↓reduceIte, Option.bind_some, Nat.add_sub_cancel, Nat.add_sub_cancel_left, reduceCtorEq, Option.some.injEq, Prod.mk.injEq, true_and, and_true, decide_true, decide_false, Bool.true_eq_false, Bool.false_eq_true, Bool.not_eq_true, Bool.not_eq_false, q_at, h1, hq, hj, q_kind, e1, hb, hbi, Nat.add_zero]
      · rw [decide_eq_true (by omega)] at hb
        have hbi : bi k = 1 := if_neg hk
        simp (disch := omega) only [jlo, jl0, jl1, jl2, jl3, jl4, jl5, jl9, jl10, jl12, jl16, jl30, jl60, jl63, jl64, jl80, jl100, jl120, jl512, jlM, jlm, j_lt, j_le, j_eq, j_add, j_mul, j_div, j_mod, j_sub, j_m1, j_nelt, j_melt, j_nele, j_mele, j_neeq, j_meeq, j_nat, j_bz0, j_bz1, jc_le0, jc_le1, jc_lt0, jc_lt1, jc_eq0, jc_eq1, Nat.not_lt_zero, Nat.zero_le, ne_eq, false_or, or_false, true_or, or_true, not_false_eq_true, not_true_eq_false, ↓reduceIte, Option.bind_some, Nat.add_sub_cancel, Nat.add_sub_cancel_left, reduceCtorEq, Option.some.injEq, Prod.mk.injEq, true_and, and_true, decide_true, decide_false, Bool.true_eq_false, Bool.false_eq_true, Bool.not_eq_true, Bool.not_eq_false, q_at, h1, hq, hj, q_kind, e1, hb, hbi]
    by_cases hc : xs.length + 1 ≤ 60
    · rcases hl (br := br) (bl := bl) (jp := upd (upd jp n (jn (b + bi k))) (n + 1) (jn b)) (ji := ji) (O := O1) (xs := xs ++ [k]) (r := r) (i := i + 1) (n := n + 1) (b := b) (e := e) (v2 := v2) hsx hw.2.1 ho1 (by simp only [List.length_append, List.length_cons, List.length_nil]; omega) (by omega) h60 hr
        (by rw [show 60 * r + (i + 1) = 60 * r + i + 1 by omega]; exact hs.2.1) (by omega) (by rw [j_upd, if_pos rfl]) (by omega) with ⟨O2, jp2, ji2, e2, ho2, hl2, k2⟩ | ⟨O2, jp2, ji2, e2, ho2, hl2⟩
      · simp only [List.length_append, List.length_cons, List.length_nil] at hl2
        rcases hr' (br := br) (bl := bl) (jp := jp2) (ji := ji2) (O := O2) (xs := xs ++ [k] ++ enc (sbs x b l)) (r := r) (i := i + 1 + sz l) (n := n) (b := b + bi k) (e := e) (v2 := v2) hsx hw.2.2 ho2 (by simp only [List.length_append, List.length_cons, List.length_nil, enc_len]; omega) (by omega) h60 hr
          (by rw [show 60 * r + (i + 1 + sz l) = 60 * r + i + 1 + sz l by omega]; exact hs.2.2) (by omega) (by rw [k2 n (by omega), j_upd, if_neg (by omega), j_upd, if_pos rfl]) (by omega) with ⟨O3, jp3, ji3, e3, ho3, hl3, k3⟩ | ⟨O3, jp3, ji3, e3, ho3, hl3⟩
        · refine .inl ⟨O3, jp3, ji3, ?_, ?_, ?_, ?_⟩
          · intro w
            rw [show w + (1 + sz l + sz r') = w + sz r' + sz l + 1 by omega, he, e2, e3, show i + 1 + sz l + sz r' = i + (1 + sz l + sz r') by omega]
          · simp only [enc]
            simpa only [List.append_assoc, List.cons_append, List.nil_append] using ho3
          · simp only [List.length_append, List.length_cons, List.length_nil, enc_len] at hl3
            omega
          · intro j hjn
            rw [k3 j hjn, k2 j (by omega), j_upd, if_neg (by omega), j_upd, if_neg (by omega)]
        · refine .inr ⟨O3, jp3, ji3, ?_, ho3, ?_⟩
          · intro w
            rw [show w + (1 + sz l + sz r') + 1 = w + sz r' + 1 + sz l + 1 by omega, he, e2, e3]
          · simp only [List.length_append, List.length_cons, List.length_nil, enc_len] at hl3
            omega
      · refine .inr ⟨O2, jp2, ji2, ?_, ho2, ?_⟩
        · intro w
          rw [show w + (1 + sz l + sz r') + 1 = w + sz r' + sz l + 1 + 1 by omega, he, e2]
        · simp only [List.length_append, List.length_cons, List.length_nil] at hl2
          omega
    · have hg1 := (ot_great (ys := []) ho1 (by simp only [List.length_append, List.length_cons, List.length_nil]; omega)).2
      refine .inr ⟨O1, upd (upd jp n (jn (b + bi k))) (n + 1) (jn b), ji, ?_, hg1, by omega⟩
      intro w
      rw [show w + (1 + sz l + sz r') + 1 = w + (sz l + sz r') + 1 + 1 by omega, he, great_stop2 hg1]
theorem q_putFor {fl : Nat} (hfl : 10000 ≤ fl) {x t : tm} {B : cB} {O : cO} {jp ji : Nat → Int32} {xs : List Nat} {r i e rx xb xe : Nat} (hxe : xe = xb + sz x) (he : e = i + sz t) (hxw : wft x) (hw : wft t) (ho : Ot O xs) (hx60 : xe ≤ 60) (h60 : e ≤ 60) (hrx : rx < 96) (hr : r < 96) (hsx : Seg B.1 (60 * rx + xb) (enc x)) (hs : Seg B.1 (60 * r + i) (enc t)) (hx : xs.length ≤ 60) :
    ∃ O' J', fm_putFor fl B O (jp, ji) (jn r) (jn i) (jn e) (jn rx) (jn xb) (jn xe) = some (O', J') ∧ Ot O' (xs ++ enc (sbs x 0 t)) := by
  obtain ⟨br, bl⟩ := B
  unfold fm_putFor
  simp (disch := omega) only [jlo, jl0, jl1, jl2, jl3, jl4, jl5, jl9, jl10, jl12, jl16, jl30, jl60, jl63, jl64, jl80, jl100, jl120, jl512, jlM, jlm, j_lt, j_le, j_eq, j_add, j_mul, j_div, j_mod, j_sub, j_m1, j_nelt, j_melt, j_nele, j_mele, j_neeq, j_meeq, j_nat, j_bz0, j_bz1, jc_le0, jc_le1, jc_lt0, jc_lt1, jc_eq0, jc_eq1, Nat.not_lt_zero, Nat.zero_le, ne_eq, false_or, or_false, true_or, or_true, not_false_eq_true, not_true_eq_false, ↓reduceIte, Option.bind_some, Nat.add_sub_cancel, Nat.add_sub_cancel_left, reduceCtorEq, Option.some.injEq, Prod.mk.injEq, true_and, and_true, decide_true, decide_false, Bool.true_eq_false, Bool.false_eq_true, Bool.not_eq_true, Bool.not_eq_false]
  rcases q_putFor_t hfl hxw hxe hx60 hrx t (br := br) (bl := bl) (jp := upd jp 0 (jn 0)) (ji := ji) (O := O) (xs := xs) (r := r) (i := i) (n := 0) (b := 0) (e := e) (v2 := jn i) hsx hw ho hx (by omega) h60 hr hs (by omega) (by rw [j_upd, if_pos rfl]) (by omega) with ⟨O2, jp2, ji2, e2, ho2, hl2, k2⟩ | ⟨O2, jp2, ji2, e2, ho2, hl2⟩
  · have := e2 (fl - 1 - sz t + 1)
    rw [show fl - 1 - sz t + 1 + sz t = fl by omega] at this
    refine ⟨O2, (jp2, ji2), ?_, ho2⟩
    rw [show (0 : Nat) + 1 = 1 from rfl] at this
    rw [this, lp_fm_putFor_13]
    simp (disch := omega) only [jlo, jl0, jl1, jl2, jl3, jl4, jl5, jl9, jl10, jl12, jl16, jl30, jl60, jl63, jl64, jl80, jl100, jl120, jl512, jlM, jlm, j_lt, j_le, j_eq, j_add, j_mul, j_div, j_mod, j_sub, j_m1, j_nelt, j_melt, j_nele, j_mele, j_neeq, j_meeq, j_nat, j_bz0, j_bz1, jc_le0, jc_le1, jc_lt0, jc_lt1, jc_eq0, jc_eq1, Nat.not_lt_zero, Nat.zero_le, ne_eq, false_or, or_false, true_or, or_true, not_false_eq_true, not_true_eq_false, ↓reduceIte, Option.bind_some, Nat.add_sub_cancel, Nat.add_sub_cancel_left, reduceCtorEq, Option.some.injEq, Prod.mk.injEq, true_and, and_true, decide_true, decide_false, Bool.true_eq_false, Bool.false_eq_true, Bool.not_eq_true, Bool.not_eq_false]
  · have := e2 (fl - 1 - sz t)
    rw [show fl - 1 - sz t + sz t + 1 = fl by omega] at this
    refine ⟨O2, (jp2, ji2), this, .inr ⟨?_, ho2⟩⟩
    rw [List.length_append, enc_len]
    exact hl2
/-- a great row stays so -/
theorem q_putFor_g {fl : Nat} (hfl : 10000 ≤ fl) {B : cB} {O : cO} {jp ji : Nat → Int32} {v1 v2 v3 v4 v5 v6 : Int32} (h : O.2.2 = jn 1) : ∃ J', fm_putFor fl B O (jp, ji) v1 v2 v3 v4 v5 v6 = some (O, J') := by
  unfold fm_putFor
  obtain ⟨w, hw⟩ : ∃ w, fl = w + 1 := ⟨fl - 1, by omega⟩
  simp (disch := omega) only [jlo, jl0, jl1, jl2, jl3, jl4, jl5, jl9, jl10, jl12, jl16, jl30, jl60, jl63, jl64, jl80, jl100, jl120, jl512, jlM, jlm, j_lt, j_le, j_eq, j_add, j_mul, j_div, j_mod, j_sub, j_m1, j_nelt, j_melt, j_nele, j_mele, j_neeq, j_meeq, j_nat, j_bz0, j_bz1, jc_le0, jc_le1, jc_lt0, jc_lt1, jc_eq0, jc_eq1, Nat.not_lt_zero, Nat.zero_le, ne_eq, false_or, or_false, true_or, or_true, not_false_eq_true, not_true_eq_false, ↓reduceIte, Option.bind_some, Nat.add_sub_cancel, Nat.add_sub_cancel_left, reduceCtorEq, Option.some.injEq, Prod.mk.injEq, true_and, and_true, decide_true, decide_false, Bool.true_eq_false, Bool.false_eq_true, Bool.not_eq_true, Bool.not_eq_false]
  have := great_stop2 (fl := fl) (w := w) (B := B) (O := O) (J := (upd jp 0 (jn 0), ji)) (v1 := v1) (v2 := v2) (v3 := v3) (v4 := v4) (v5 := v5) (v6 := v6) (v7 := jn 1) (v8 := v2) h
  rw [← hw] at this
  exact ⟨_, this⟩
