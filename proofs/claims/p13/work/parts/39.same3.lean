def mk : tm → Nat
  | .leaf m => m
  | .branch k _ _ => k
theorem q_at0 {B : cB} {r : Nat} {t : tm} (hr : r < 96) (h : Row B r t) : fm_at B (jn r) (jn 0) = some (jn (mk t)) := by
  obtain ⟨br, bl⟩ := B
  rw [q_at (by omega)]
  cases t with
  | leaf m => rw [show br (60 * r + 0) = jn m from h.2.1]; rfl
  | branch k a b => rw [show br (60 * r + 0) = jn k from h.2.1]; rfl
theorem mk_lt {t : tm} (h : wft t) : mk t < 10000 := by
  cases t with
  | leaf m => exact h.1
  | branch k a b =>
    have := h.1
    simp only [mk]
    omega
theorem cmp2_none {s t : tm} (hs : wft s) (ht : wft t) (h : cmp2 s t = none) : mk s % 10 ≠ mk t % 10 ∨ (mk s % 10 = mk t % 10 ∧ mk s ≠ mk t ∧ fm_hasParts (jn (mk s)) = some false) := by
  cases s with
  | leaf m =>
    cases t with
    | leaf m' =>
      simp only [cmp2] at h
      split at h
      · cases h
      · rename_i hne
        simp only [mk]
        by_cases hk : m % 10 = m' % 10
        · refine .inr ⟨hk, hne, ?_⟩
          have := hs.1
          have := hs.2
          rw [q_parts (by omega), decide_eq_false (by omega)]
        · exact .inl hk
    | branch k' a' b' =>
      have := hs.2
      have := ht.1
      simp only [mk]
      omega
  | branch k a b =>
    cases t with
    | leaf m' =>
      have := hs.1
      have := ht.2
      simp only [mk]
      omega
    | branch k' a' b' =>
      simp only [cmp2] at h
      split at h
      · cases h
      · have := hs.1
        have := ht.1
        simp only [mk]
        omega
theorem q_same_l {fl : Nat} (hfl : 10000 ≤ fl) {q f : Nat} {G : cG} {bo : Nat → Option tm} (hq : q ≤ 16) (hf30 : f ≤ 30) (g : Nat) : ∀ {B : cB} {O : cO} {J : cJ} {n : Nat} {s t : tm} {l : List (tm × tm)} {zz zl zr : Nat → Int32} {res : Option (Bool × Nat)},
    Bod q G B bo → oks q n ((s, t) :: l) → hts n ((s, t) :: l) → tot ((s, t) :: l) + 60 * n ≤ 1920 → n ≤ f → Row B 0 s → Row B 1 t → Zs zz zl zr l → sw bo g n ((s, t) :: l) = some res →
    ∃ B' O' J' Z', (∀ r, r ≠ 0 → r ≠ 1 → r ≠ 3 → Sm B B' r) ∧ match res with
      | some (b, n') => n' ≤ n ∧ ∀ w, lp_fm_areSame_12 fl (w + g) G B O J (jn f, jn (f - n), jn 0) (jn l.length, jn (tot l), zz, zl, zr) (jn 1) = some (b, B', O', J', (jn f, jn (f - n'), jn 0), Z')
      | none => ∃ u', ∀ w, lp_fm_areSame_12 fl (w + g) G B O J (jn f, jn (f - n), jn 0) (jn l.length, jn (tot l), zz, zl, zr) (jn 1) = some (false, B', O', J', (jn f, u', jn 3), Z') := by
  induction g with
  | zero => intros; rename_i h; cases h
  | succ g ih =>
    intro B O J n s t l zz zl zr res hb ho ht hΦ hn hrs hrt hz hsw
    have hbo := bod_okt hb
    obtain ⟨c, hc, hcn, ⟨os1, os2, os3⟩, ⟨ot1, ot2, ot3⟩⟩ := ho (s, t) (List.mem_cons_self ..)
    simp only at os1 os2 os3 ot1 ot2 ot3 hcn
    obtain ⟨B1, O1, J1, sm1, m1⟩ := q_toHead hfl (r := 0) (f := f) (n := n) (c := c) hc (by omega) hq (by omega) hf30 (O := O) (J := J) hb os3 os1 os2 hrs hn
    rcases h1 : hf bo n s with _ | ⟨s', n1⟩
    · rw [h1] at m1
      obtain ⟨u', e1⟩ := m1
      simp only [sw, h1, Option.some.injEq] at hsw
      subst hsw
      refine ⟨B1, O1, J1, (jn l.length, jn (tot l), zz, zl, zr), fun r h _ _ => sm1 r h, u', fun w => ?_⟩
      rw [show w + (g + 1) = w + g + 1 by omega, lp_fm_areSame_12]
      (repeat (first | (with_reducible refine ifn ?_ ?_; (focus (simp (disch := omega) only [jlo, jl0, jl1, jl2, jl3, jl4, jl5, jl9, jl10, jl12, jl16, jl30, jl60, jl63, jl64, jl80, jl100, jl120, jl512, jlM, jlm, j_lt, j_le, j_eq, j_add, j_mul, j_div, j_mod, j_sub, j_m1, j_nelt, j_melt, j_nele, j_mele, j_neeq, j_meeq, j_nat, j_bz0, j_bz1, jc_le0, jc_le1, jc_lt0, jc_lt1, jc_eq0, jc_eq1, Nat.not_lt_zero, Nat.zero_le, ne_eq, false_or, or_false, true_or, or_true, not_false_eq_true, not_true_eq_false, ↓reduceIte, Option.bind_some, Nat.add_sub_cancel, Nat.add_sub_cancel_left, reduceCtorEq, Option.some.injEq, Prod.mk.injEq, true_and, and_true, decide_true, decide_false, Bool.true_eq_false, Bool.false_eq_true, Bool.not_eq_true, Bool.not_eq_false, e1]; done))) | (with_reducible refine ifp ?_ ?_; (focus (simp (disch := omega) only [jlo, jl0, jl1, jl2, jl3, jl4, jl5, jl9, jl10, jl12, jl16, jl30, jl60, jl63, jl64, jl80, jl100, jl120, jl512, jlM, jlm, j_lt, j_le, j_eq, j_add, j_mul, j_div, j_mod, j_sub, j_m1, j_nelt, j_melt, j_nele, j_mele, j_neeq, j_meeq, j_nat, j_bz0, j_bz1, jc_le0, jc_le1, jc_lt0, jc_lt1, jc_eq0, jc_eq1, Nat.not_lt_zero, Nat.zero_le, ne_eq, false_or, or_false, true_or, or_true, not_false_eq_true, not_true_eq_false, ↓reduceIte, Option.bind_some, Nat.add_sub_cancel, Nat.add_sub_cancel_left, reduceCtorEq, Option.some.injEq, Prod.mk.injEq, true_and, and_true, decide_true, decide_false, Bool.true_eq_false, Bool.false_eq_true, Bool.not_eq_true, Bool.not_eq_false, e1]; done))) | (with_reducible apply bnd1; (focus ((try simp (disch := omega) only [jlo, jl0, jl1, jl2, jl3, jl4, jl5, jl9, jl10, jl12, jl16, jl30, jl60, jl63, jl64, jl80, jl100, jl120, jl512, jlM, jlm, j_lt, j_le, j_eq, j_add, j_mul, j_div, j_mod, j_sub, j_m1, j_nelt, j_melt, j_nele, j_mele, j_neeq, j_meeq, j_nat, j_bz0, j_bz1, jc_le0, jc_le1, jc_lt0, jc_lt1, jc_eq0, jc_eq1, Nat.not_lt_zero, Nat.zero_le, ne_eq, false_or, or_false, true_or, or_true, not_false_eq_true, not_true_eq_false, ↓reduceIte, Option.bind_some, Nat.add_sub_cancel, Nat.add_sub_cancel_left, reduceCtorEq, Option.some.injEq, Prod.mk.injEq, true_and, and_true, decide_true, decide_false, Bool.true_eq_false, Bool.false_eq_true, Bool.not_eq_true, Bool.not_eq_false, e1]); exact rfl)); with_reducible refine bnd rfl ?_)))
      rfl
    · rw [h1] at m1
      obtain ⟨hr1, e1⟩ := m1
      have hb1 : Bod q G B1 bo := bod_sm hb fun r h _ => sm1 r (by omega)
      have hrt1 := row_sm ot1 (sm1 1 (by omega)) hrt
      obtain ⟨a1, a2, -, -⟩ := okt_hf hc hbo n os3 h1
      obtain ⟨B2, O2, J2, sm2, m2⟩ := q_toHead hfl (r := 1) (f := f) (n := n1) (c := c) hc (by omega) hq (by omega) hf30 (O := O1) (J := J1) hb1 ot3 ot1 ot2 hrt1 (by omega)
      rcases h2 : hf bo n1 t with _ | ⟨t', n2⟩
      · rw [h2] at m2
        obtain ⟨u', e2⟩ := m2
        simp only [sw, h1, h2, Option.some.injEq] at hsw
        subst hsw
        refine ⟨B2, O2, J2, (jn l.length, jn (tot l), zz, zl, zr), fun r h h' _ => sm_trans (sm1 r h) (sm2 r h'), u', fun w => ?_⟩
        rw [show w + (g + 1) = w + g + 1 by omega, lp_fm_areSame_12]
        (repeat (first | (with_reducible refine ifn ?_ ?_; (focus (simp (disch := omega) only [jlo, jl0, jl1, jl2, jl3, jl4, jl5, jl9, jl10, jl12, jl16, jl30, jl60, jl63, jl64, jl80, jl100, jl120, jl512, jlM, jlm, j_lt, j_le, j_eq, j_add, j_mul, j_div, j_mod, j_sub, j_m1, j_nelt, j_melt, j_nele, j_mele, j_neeq, j_meeq, j_nat, j_bz0, j_bz1, jc_le0, jc_le1, jc_lt0, jc_lt1, jc_eq0, jc_eq1, Nat.not_lt_zero, Nat.zero_le, ne_eq, false_or, or_false, true_or, or_true, not_false_eq_true, not_true_eq_false, ↓reduceIte, Option.bind_some, Nat.add_sub_cancel, Nat.add_sub_cancel_left, reduceCtorEq, Option.some.injEq, Prod.mk.injEq, true_and, and_true, decide_true, decide_false, Bool.true_eq_false, Bool.false_eq_true, Bool.not_eq_true, Bool.not_eq_false, e1, e2]; done))) | (with_reducible refine ifp ?_ ?_; (focus (simp (disch := omega) only [jlo, jl0, jl1, jl2, jl3, jl4, jl5, jl9, jl10, jl12, jl16, jl30, jl60, jl63, jl64, jl80, jl100, jl120, jl512, jlM, jlm, j_lt, j_le, j_eq, j_add, j_mul, j_div, j_mod, j_sub, j_m1, j_nelt, j_melt, j_nele, j_mele, j_neeq, j_meeq, j_nat, j_bz0, j_bz1, jc_le0, jc_le1, jc_lt0, jc_lt1, jc_eq0, jc_eq1, Nat.not_lt_zero, Nat.zero_le, ne_eq, false_or, or_false, true_or, or_true, not_false_eq_true, not_true_eq_false, ↓reduceIte, Option.bind_some, Nat.add_sub_cancel, Nat.add_sub_cancel_left, reduceCtorEq, Option.some.injEq, Prod.mk.injEq, true_and, and_true, decide_true, decide_false, Bool.true_eq_false, Bool.false_eq_true, Bool.not_eq_true, Bool.not_eq_false, e1, e2]; done))) | (with_reducible apply bnd1; (focus ((try simp (disch := omega) only [jlo, jl0, jl1, jl2, jl3, jl4, jl5, jl9, jl10, jl12, jl16, jl30, jl60, jl63, jl64, jl80, jl100, jl120, jl512, jlM, jlm, j_lt, j_le, j_eq, j_add, j_mul, j_div, j_mod, j_sub, j_m1, j_nelt, j_melt, j_nele, j_mele, j_neeq, j_meeq, j_nat, j_bz0, j_bz1, jc_le0, jc_le1, jc_lt0, jc_lt1, jc_eq0, jc_eq1, Nat.not_lt_zero, Nat.zero_le, ne_eq, false_or, or_false, true_or, or_true, not_false_eq_true, not_true_eq_false, ↓reduceIte, Option.bind_some, Nat.add_sub_cancel, Nat.add_sub_cancel_left, reduceCtorEq, Option.some.injEq, Prod.mk.injEq, true_and, and_true, decide_true, decide_false, Bool.true_eq_false, Bool.false_eq_true, Bool.not_eq_true, Bool.not_eq_false, e1, e2]); exact rfl)); with_reducible refine bnd rfl ?_)))
        rfl
      · rw [h2] at m2
        obtain ⟨hr2, e2⟩ := m2
        obtain ⟨⟨s1, s2, s3⟩, ⟨t1, t2, t3⟩, hn2, hn1, k1, k2⟩ := sw_step hq hbo ho ht h1 h2
        have hb2 : Bod q G B2 bo := bod_sm hb1 fun r h _ => sm2 r (by omega)
        have hr1' := row_sm s1 (sm2 0 (by omega)) hr1
        have x1 := q_at0 (by omega) hr1'
        have x2 := q_at0 (by omega) hr2
        have y1 := mk_lt s3
        have y2 := mk_lt t3
        have sm12 : ∀ r, r ≠ 0 → r ≠ 1 → r ≠ 3 → Sm B B2 r := fun r h h' _ => sm_trans (sm1 r h) (sm2 r h')
        rcases cmp2_case s' t' with hcm | ⟨hcm, m, rfl, rfl⟩ | ⟨k, a, b, a', b', rfl, rfl, hcm⟩
        · simp only [sw, h1, h2, hcm, Option.some.injEq] at hsw
          subst hsw
          refine ⟨B2, O2, J2, (jn l.length, jn (tot l), zz, zl, zr), sm12, by omega, fun w => ?_⟩
          rw [show w + (g + 1) = w + g + 1 by omega, lp_fm_areSame_12]
          rcases cmp2_none s3 t3 hcm with hk | ⟨hk, hne, hp⟩
          · (repeat (first | (with_reducible refine ifn ?_ ?_; (focus (simp (disch := omega) only [jlo, jl0, jl1, jl2, jl3, jl4, jl5, jl9, jl10, jl12, jl16, jl30, jl60, jl63, jl64, jl80, jl100, jl120, jl512, jlM, jlm, j_lt, j_le, j_eq, j_add, j_mul, j_div, j_mod, j_sub, j_m1, j_nelt, j_melt, j_nele, j_mele, j_neeq, j_meeq, j_nat, j_bz0, j_bz1, jc_le0, jc_le1, jc_lt0, jc_lt1, jc_eq0, jc_eq1, Nat.not_lt_zero, Nat.zero_le, ne_eq, false_or, or_false, true_or, or_true, not_false_eq_true, not_true_eq_false, ↓reduceIte, Option.bind_some, Nat.add_sub_cancel, Nat.add_sub_cancel_left, reduceCtorEq, Option.some.injEq, Prod.mk.injEq, true_and, and_true, decide_true, decide_false, Bool.true_eq_false, Bool.false_eq_true, Bool.not_eq_true, Bool.not_eq_false, e1, e2, x1, x2, q_kind]; done))) | (with_reducible refine ifp ?_ ?_; (focus (simp (disch := omega) only [jlo, jl0, jl1, jl2, jl3, jl4, jl5, jl9, jl10, jl12, jl16, jl30, jl60, jl63, jl64, jl80, jl100, jl120, jl512, jlM, jlm, j_lt, j_le, j_eq, j_add, j_mul, j_div, j_mod, j_sub, j_m1, j_nelt, j_melt, j_nele, j_mele, j_neeq, j_meeq, j_nat, j_bz0, j_bz1, jc_le0, jc_le1, jc_lt0, jc_lt1, jc_eq0, jc_eq1, Nat.not_lt_zero, Nat.zero_le, ne_eq, false_or, or_false, true_or, or_true, not_false_eq_true, not_true_eq_false, ↓reduceIte, Option.bind_some, Nat.add_sub_cancel, Nat.add_sub_cancel_left, reduceCtorEq, Option.some.injEq, Prod.mk.injEq, true_and, and_true, decide_true, decide_false, Bool.true_eq_false, Bool.false_eq_true, Bool.not_eq_true, Bool.not_eq_false, e1, e2, x1, x2, q_kind]; done))) | (with_reducible apply bnd1; (focus ((try simp (disch := omega) only [jlo, jl0, jl1, jl2, jl3, jl4, jl5, jl9, jl10, jl12, jl16, jl30, jl60, jl63, jl64, jl80, jl100, jl120, jl512, jlM, jlm, j_lt, j_le, j_eq, j_add, j_mul, j_div, j_mod, j_sub, j_m1, j_nelt, j_melt, j_nele, j_mele, j_neeq, j_meeq, j_nat, j_bz0, j_bz1, jc_le0, jc_le1, jc_lt0, jc_lt1, jc_eq0, jc_eq1, Nat.not_lt_zero, Nat.zero_le, ne_eq, false_or, or_false, true_or, or_true, not_false_eq_true, not_true_eq_false, ↓reduceIte, Option.bind_some, Nat.add_sub_cancel, Nat.add_sub_cancel_left, reduceCtorEq, Option.some.injEq, Prod.mk.injEq, true_and, and_true, decide_true, decide_false, Bool.true_eq_false, Bool.false_eq_true, Bool.not_eq_true, Bool.not_eq_false, e1, e2, x1, x2, q_kind]); exact rfl)); with_reducible refine bnd rfl ?_)))
            rfl
          · (repeat (first | (with_reducible refine ifn ?_ ?_; (focus (simp (disch := omega) only [jlo, jl0, jl1, jl2, jl3, jl4, jl5, jl9, jl10, jl12, jl16, jl30, jl60, jl63, jl64, jl80, jl100, jl120, jl512, jlM, jlm, j_lt, j_le, j_eq, j_add, j_mul, j_div, j_mod, j_sub, j_m1, j_nelt, j_melt, j_nele, j_mele, j_neeq, j_meeq, j_nat, j_bz0, j_bz1, jc_le0, jc_le1, jc_lt0, jc_lt1, jc_eq0, jc_eq1, Nat.not_lt_zero, Nat.zero_le, ne_eq, false_or, or_false, true_or, or_true, not_false_eq_true, not_true_eq_false, ↓reduceIte, Option.bind_some, Nat.add_sub_cancel, Nat.add_sub_cancel_left, reduceCtorEq, Option.some.injEq, Prod.mk.injEq, true_and, and_true, decide_true, decide_false, Bool.true_eq_false, Bool.false_eq_true, Bool.not_eq_true, Bool.not_eq_false, e1, e2, x1, x2, q_kind, hp]; done))) | (with_reducible refine ifp ?_ ?_; (focus (simp (disch := omega) only [jlo, jl0, jl1, jl2, jl3, jl4, jl5, jl9, jl10, jl12, jl16, jl30, jl60, jl63, jl64, jl80, jl100, jl120, jl512, jlM, jlm, j_lt, j_le, j_eq, j_add, j_mul, j_div, j_mod, j_sub, j_m1, j_nelt, j_melt, j_nele, j_mele, j_neeq, j_meeq, j_nat, j_bz0, j_bz1, jc_le0, jc_le1, jc_lt0, jc_lt1, jc_eq0, jc_eq1, Nat.not_lt_zero, Nat.zero_le, ne_eq, false_or, or_false, true_or, or_true, not_false_eq_true, not_true_eq_false, ↓reduceIte, Option.bind_some, Nat.add_sub_cancel, Nat.add_sub_cancel_left, reduceCtorEq, Option.some.injEq, Prod.mk.injEq, true_and, and_true, decide_true, decide_false, Bool.true_eq_false, Bool.false_eq_true, Bool.not_eq_true, Bool.not_eq_false, e1, e2, x1, x2, q_kind, hp]; done))) | (with_reducible apply bnd1; (focus ((try simp (disch := omega) only [jlo, jl0, jl1, jl2, jl3, jl4, jl5, jl9, jl10, jl12, jl16, jl30, jl60, jl63, jl64, jl80, jl100, jl120, jl512, jlM, jlm, j_lt, j_le, j_eq, j_add, j_mul, j_div, j_mod, j_sub, j_m1, j_nelt, j_melt, j_nele, j_mele, j_neeq, j_meeq, j_nat, j_bz0, j_bz1, jc_le0, jc_le1, jc_lt0, jc_lt1, jc_eq0, jc_eq1, Nat.not_lt_zero, Nat.zero_le, ne_eq, false_or, or_false, true_or, or_true, not_false_eq_true, not_true_eq_false, ↓reduceIte, Option.bind_some, Nat.add_sub_cancel, Nat.add_sub_cancel_left, reduceCtorEq, Option.some.injEq, Prod.mk.injEq, true_and, and_true, decide_true, decide_false, Bool.true_eq_false, Bool.false_eq_true, Bool.not_eq_true, Bool.not_eq_false, e1, e2, x1, x2, q_kind, hp]); exact rfl)); with_reducible refine bnd rfl ?_)))
            rfl
        · simp only [sw, h1, h2, hcm, List.nil_append] at hsw
          obtain ⟨o1, o2, o3⟩ := k1 hcm
          simp only [mk] at x1 x2 y1
          have hp : fm_hasParts (jn m) = some false := by
            have := s3.2
            rw [q_parts y1, decide_eq_false (by omega)]
          cases l with
          | nil =>
            cases g with
            | zero => cases hsw
            | succ g =>
              simp only [sw, Option.some.injEq] at hsw
              subst hsw
              refine ⟨B2, O2, J2, (jn 0, jn 0, zz, zl, zr), sm12, by omega, fun w => ?_⟩
              rw [show w + (g + 1 + 1) = w + (g + 1) + 1 by omega, lp_fm_areSame_12]
              simp only [List.length_nil, tot]
              (repeat (first | (with_reducible refine ifn ?_ ?_; (focus (simp (disch := omega) only [jlo, jl0, jl1, jl2, jl3, jl4, jl5, jl9, jl10, jl12, jl16, jl30, jl60, jl63, jl64, jl80, jl100, jl120, jl512, jlM, jlm, j_lt, j_le, j_eq, j_add, j_mul, j_div, j_mod, j_sub, j_m1, j_nelt, j_melt, j_nele, j_mele, j_neeq, j_meeq, j_nat, j_bz0, j_bz1, jc_le0, jc_le1, jc_lt0, jc_lt1, jc_eq0, jc_eq1, Nat.not_lt_zero, Nat.zero_le, ne_eq, false_or, or_false, true_or, or_true, not_false_eq_true, not_true_eq_false, ↓reduceIte, Option.bind_some, Nat.add_sub_cancel, Nat.add_sub_cancel_left, reduceCtorEq, Option.some.injEq, Prod.mk.injEq, true_and, and_true, decide_true, decide_false, Bool.true_eq_false, Bool.false_eq_true, Bool.not_eq_true, Bool.not_eq_false, e1, e2, x1, x2, q_kind, hp]; done))) | (with_reducible refine ifp ?_ ?_; (focus (simp (disch := omega) only [jlo, jl0, jl1, jl2, jl3, jl4, jl5, jl9, jl10, jl12, jl16, jl30, jl60, jl63, jl64, jl80, jl100, jl120, jl512, jlM, jlm, j_lt, j_le, j_eq, j_add, j_mul, j_div, j_mod, j_sub, j_m1, j_nelt, j_melt, j_nele, j_mele, j_neeq, j_meeq, j_nat, j_bz0, j_bz1, jc_le0, jc_le1, jc_lt0, jc_lt1, jc_eq0, jc_eq1, Nat.not_lt_zero, Nat.zero_le, ne_eq, false_or, or_false, true_or, or_true, not_false_eq_true, not_true_eq_false, ↓reduceIte, Option.bind_some, Nat.add_sub_cancel, Nat.add_sub_cancel_left, reduceCtorEq, Option.some.injEq, Prod.mk.injEq, true_and, and_true, decide_true, decide_false, Bool.true_eq_false, Bool.false_eq_true, Bool.not_eq_true, Bool.not_eq_false, e1, e2, x1, x2, q_kind, hp]; done))) | (with_reducible apply bnd1; (focus ((try simp (disch := omega) only [jlo, jl0, jl1, jl2, jl3, jl4, jl5, jl9, jl10, jl12, jl16, jl30, jl60, jl63, jl64, jl80, jl100, jl120, jl512, jlM, jlm, j_lt, j_le, j_eq, j_add, j_mul, j_div, j_mod, j_sub, j_m1, j_nelt, j_melt, j_nele, j_mele, j_neeq, j_meeq, j_nat, j_bz0, j_bz1, jc_le0, jc_le1, jc_lt0, jc_lt1, jc_eq0, jc_eq1, Nat.not_lt_zero, Nat.zero_le, ne_eq, false_or, or_false, true_or, or_true, not_false_eq_true, not_true_eq_false, ↓reduceIte, Option.bind_some, Nat.add_sub_cancel, Nat.add_sub_cancel_left, reduceCtorEq, Option.some.injEq, Prod.mk.injEq, true_and, and_true, decide_true, decide_false, Bool.true_eq_false, Bool.false_eq_true, Bool.not_eq_true, Bool.not_eq_false, e1, e2, x1, x2, q_kind, hp]); exact rfl)); with_reducible refine bnd rfl ?_)))
              rw [show w + (g + 1) = w + g + 1 by omega, lp_fm_areSame_12]
              (repeat (first | (with_reducible refine ifn ?_ ?_; (focus (simp (disch := omega) only [jlo, jl0, jl1, jl2, jl3, jl4, jl5, jl9, jl10, jl12, jl16, jl30, jl60, jl63, jl64, jl80, jl100, jl120, jl512, jlM, jlm, j_lt, j_le, j_eq, j_add, j_mul, j_div, j_mod, j_sub, j_m1, j_nelt, j_melt, j_nele, j_mele, j_neeq, j_meeq, j_nat, j_bz0, j_bz1, jc_le0, jc_le1, jc_lt0, jc_lt1, jc_eq0, jc_eq1, Nat.not_lt_zero, Nat.zero_le, ne_eq, false_or, or_false, true_or, or_true, not_false_eq_true, not_true_eq_false, ↓reduceIte, Option.bind_some, Nat.add_sub_cancel, Nat.add_sub_cancel_left, reduceCtorEq, Option.some.injEq, Prod.mk.injEq, true_and, and_true, decide_true, decide_false, Bool.true_eq_false, Bool.false_eq_true, Bool.not_eq_true, Bool.not_eq_false]; done))) | (with_reducible refine ifp ?_ ?_; (focus (simp (disch := omega) only [jlo, jl0, jl1, jl2, jl3, jl4, jl5, jl9, jl10, jl12, jl16, jl30, jl60, jl63, jl64, jl80, jl100, jl120, jl512, jlM, jlm, j_lt, j_le, j_eq, j_add, j_mul, j_div, j_mod, j_sub, j_m1, j_nelt, j_melt, j_nele, j_mele, j_neeq, j_meeq, j_nat, j_bz0, j_bz1, jc_le0, jc_le1, jc_lt0, jc_lt1, jc_eq0, jc_eq1, Nat.not_lt_zero, Nat.zero_le, ne_eq, false_or, or_false, true_or, or_true, not_false_eq_true, not_true_eq_false, ↓reduceIte, Option.bind_some, Nat.add_sub_cancel, Nat.add_sub_cancel_left, reduceCtorEq, Option.some.injEq, Prod.mk.injEq, true_and, and_true, decide_true, decide_false, Bool.true_eq_false, Bool.false_eq_true, Bool.not_eq_true, Bool.not_eq_false]; done))) | (with_reducible apply bnd1; (focus ((try simp (disch := omega) only [jlo, jl0, jl1, jl2, jl3, jl4, jl5, jl9, jl10, jl12, jl16, jl30, jl60, jl63, jl64, jl80, jl100, jl120, jl512, jlM, jlm, j_lt, j_le, j_eq, j_add, j_mul, j_div, j_mod, j_sub, j_m1, j_nelt, j_melt, j_nele, j_mele, j_neeq, j_meeq, j_nat, j_bz0, j_bz1, jc_le0, jc_le1, jc_lt0, jc_lt1, jc_eq0, jc_eq1, Nat.not_lt_zero, Nat.zero_le, ne_eq, false_or, or_false, true_or, or_true, not_false_eq_true, not_true_eq_false, ↓reduceIte, Option.bind_some, Nat.add_sub_cancel, Nat.add_sub_cancel_left, reduceCtorEq, Option.some.injEq, Prod.mk.injEq, true_and, and_true, decide_true, decide_false, Bool.true_eq_false, Bool.false_eq_true, Bool.not_eq_true, Bool.not_eq_false]); exact rfl)); with_reducible refine bnd rfl ?_)))
              rfl
          | cons p l =>
            obtain ⟨ss, tt⟩ := p
            obtain ⟨z1, z2, z3, z4, z5⟩ := hz
            obtain ⟨c', -, -, ⟨p1, p2, p3⟩, ⟨p4, p5, p6⟩⟩ := o1 (ss, tt) (List.mem_cons_self ..)
            simp only at p1 p2 p3 p4 p5 p6
            have hlen := hts_len ht
            simp only [tot, List.length_cons, sz] at o3 hΦ hlen
            obtain ⟨B3, e3, r3, sm3⟩ := q_pop hfl (r := 1) (c := tot l + sz ss) (B := B2) (t := tt) (zw := jn l.length) (zz := zz) (zl := zl) (zr := zr) (by omega) p4 (by omega) z4
            obtain ⟨B4, e4, r4, sm4⟩ := q_pop hfl (r := 0) (c := tot l) (B := B3) (t := ss) (zw := jn l.length) (zz := zz) (zl := zl) (zr := zr) (by omega) p1 (by omega) z3
            have hb4 : Bod q G B4 bo := bod_sm hb2 fun r h _ => sm_trans (sm3 r (by omega)) (sm4 r (by omega))
            obtain ⟨B5, O5, J5, Z5, sm5, m5⟩ := ih (B := B4) (O := O2) (J := J2) (n := n2) (s := ss) (t := tt) (l := l) (zz := zz) (zl := zl) (zr := zr) hb4 o1 o2 (by simp only [tot]; omega) (by omega) r4 (row_sm p4 (sm4 1 (by omega)) r3) z5 hsw
            have key : ∀ w, lp_fm_areSame_12 fl (w + (g + 1)) G B O J (jn f, jn (f - n), jn 0) (jn (l.length + 1), jn (tot l + sz ss + sz tt), zz, zl, zr) (jn 1) = lp_fm_areSame_12 fl (w + g) G B4 O2 J2 (jn f, jn (f - n2), jn 0) (jn l.length, jn (tot l), zz, zl, zr) (jn 1) := by
              intro w
              rw [show w + (g + 1) = w + g + 1 by omega, lp_fm_areSame_12]
              (repeat (first | (with_reducible refine ifn ?_ ?_; (focus (simp (disch := omega) only [jlo, jl0, jl1, jl2, jl3, jl4, jl5, jl9, jl10, jl12, jl16, jl30, jl60, jl63, jl64, jl80, jl100, jl120, jl512, jlM, jlm, j_lt, j_le, j_eq, j_add, j_mul, j_div, j_mod, j_sub, j_m1, j_nelt, j_melt, j_nele, j_mele, j_neeq, j_meeq, j_nat, j_bz0, j_bz1, jc_le0, jc_le1, jc_lt0, jc_lt1, jc_eq0, jc_eq1, Nat.not_lt_zero, Nat.zero_le, ne_eq, false_or, or_false, true_or, or_true, not_false_eq_true, not_true_eq_false, ↓reduceIte, Option.bind_some, Nat.add_sub_cancel, Nat.add_sub_cancel_left, reduceCtorEq, Option.some.injEq, Prod.mk.injEq, true_and, and_true, decide_true, decide_false, Bool.true_eq_false, Bool.false_eq_true, Bool.not_eq_true, Bool.not_eq_false, e1, e2, x1, x2, q_kind, hp, z1, z2, e3, e4]; done))) | (with_reducible refine ifp ?_ ?_; (focus (simp (disch := omega) only [jlo, jl0, jl1, jl2, jl3, jl4, jl5, jl9, jl10, jl12, jl16, jl30, jl60, jl63, jl64, jl80, jl100, jl120, jl512, jlM, jlm, j_lt, j_le, j_eq, j_add, j_mul, j_div, j_mod, j_sub, j_m1, j_nelt, j_melt, j_nele, j_mele, j_neeq, j_meeq, j_nat, j_bz0, j_bz1, jc_le0, jc_le1, jc_lt0, jc_lt1, jc_eq0, jc_eq1, Nat.not_lt_zero, Nat.zero_le, ne_eq, false_or, or_false, true_or, or_true, not_false_eq_true, not_true_eq_false, ↓reduceIte, Option.bind_some, Nat.add_sub_cancel, Nat.add_sub_cancel_left, reduceCtorEq, Option.some.injEq, Prod.mk.injEq, true_and, and_true, decide_true, decide_false, Bool.true_eq_false, Bool.false_eq_true, Bool.not_eq_true, Bool.not_eq_false, e1, e2, x1, x2, q_kind, hp, z1, z2, e3, e4]; done))) | (with_reducible apply bnd1; (focus ((try simp (disch := omega) only [jlo, jl0, jl1, jl2, jl3, jl4, jl5, jl9, jl10, jl12, jl16, jl30, jl60, jl63, jl64, jl80, jl100, jl120, jl512, jlM, jlm, j_lt, j_le, j_eq, j_add, j_mul, j_div, j_mod, j_sub, j_m1, j_nelt, j_melt, j_nele, j_mele, j_neeq, j_meeq, j_nat, j_bz0, j_bz1, jc_le0, jc_le1, jc_lt0, jc_lt1, jc_eq0, jc_eq1, Nat.not_lt_zero, Nat.zero_le, ne_eq, false_or, or_false, true_or, or_true, not_false_eq_true, not_true_eq_false, ↓reduceIte, Option.bind_some, Nat.add_sub_cancel, Nat.add_sub_cancel_left, reduceCtorEq, Option.some.injEq, Prod.mk.injEq, true_and, and_true, decide_true, decide_false, Bool.true_eq_false, Bool.false_eq_true, Bool.not_eq_true, Bool.not_eq_false, e1, e2, x1, x2, q_kind, hp, z1, z2, e3, e4]); exact rfl)); with_reducible refine bnd rfl ?_)))
              rfl
            refine ⟨B5, O5, J5, Z5, fun r h h' h'' => sm_trans (sm12 r h h' h'') (sm_trans (sm_trans (sm3 r h') (sm4 r h)) (sm5 r h h' h'')), ?_⟩
            simp only [List.length_cons, tot, key]
            split
            · rename_i b n' 
              exact ⟨by have := m5.1; omega, m5.2⟩
            · exact m5
        · simp only [sw, h1, h2, hcm] at hsw
          obtain ⟨o1, o2, o3⟩ := k2 k a b a' b' rfl rfl
          simp only [mk] at x1 x2 y1
          have hp : fm_hasParts (jn k) = some true := by
            have := s3.1
            rw [q_parts y1, decide_eq_true (by omega)]
          obtain ⟨br2, bl2⟩ := B2
          have hl0 : bl2 0 = jn (1 + sz a + sz b) := hr1'.1
          have hl1 : bl2 1 = jn (1 + sz a' + sz b') := hr2.1
          have g0 := seg_t.mp hr1'.2
          have g1 := seg_t.mp hr2.2
          have hlen := hts_len ht
          simp only [sz] at s1 t1
          have ha := sz_pos a
          have hb' := sz_pos b
          have ha' := sz_pos a'
          have hb'' := sz_pos b'
          simp only [tot] at o3 hΦ
          have f1 : fm_endOf fl (br2, bl2) (jn 0) (jn 1) = some (jn (1 + sz a)) := q_endOf hfl s3.2.1 g0.2.1 (by omega)
          have f2 : fm_endOf fl (br2, bl2) (jn 1) (jn 1) = some (jn (1 + sz a')) := q_endOf hfl t3.2.1 g1.2.1 (by omega)
          obtain ⟨zz1, f3, p1, k1'⟩ := q_pushRest hfl (r := 0) (i := 1 + sz a) (c := tot l) (B := (br2, bl2)) (t := b) (zw := jn l.length) (zz := zz) (zl := upd zl l.length (jn (sz b))) (zr := upd zr l.length (jn (sz b'))) (by omega) hl0 (by omega) (by omega) (by rw [show 60 * 0 + (1 + sz a) = 60 * 0 + 1 + sz a by omega]; exact g0.2.2)
          obtain ⟨zz2, f4, p2, k2'⟩ := q_pushRest hfl (r := 1) (i := 1 + sz a') (c := tot l + sz b) (B := (br2, bl2)) (t := b') (zw := jn l.length) (zz := zz1) (zl := upd zl l.length (jn (sz b))) (zr := upd zr l.length (jn (sz b'))) (by omega) hl1 (by omega) (by omega) (by rw [show 60 * 1 + (1 + sz a') = 60 * 1 + 1 + sz a' by omega]; exact g1.2.2)
          obtain ⟨B3, f5, r3, sm3⟩ := q_copyPart hfl (to := 3) (fr := 0) (b := 1) (B := (br2, bl2)) (t := a) (by omega) (by omega) (by omega) s3.2.1 (by omega) g0.2.1
          obtain ⟨B4, f6, r4, sm4⟩ := q_copy hfl (to := 0) (fr := 3) (B := B3) (t := a) (by omega) (by omega) (by omega) (by omega) r3
          have g1' : Row B4 1 (.branch k a' b') := row_sm (by simp only [sz]; omega) (sm_trans (sm3 1 (by omega)) (sm4 1 (by omega))) hr2
          obtain ⟨B5, f7, r5, sm5⟩ := q_copyPart hfl (to := 3) (fr := 1) (b := 1) (B := B4) (t := a') (by omega) (by omega) (by omega) t3.2.1 (by omega) (seg_t.mp g1'.2).2.1
          obtain ⟨B6, f8, r6, sm6⟩ := q_copy hfl (to := 1) (fr := 3) (B := B5) (t := a') (by omega) (by omega) (by omega) (by omega) r5
          have sm36 : ∀ r, r ≠ 0 → r ≠ 1 → r ≠ 3 → Sm (br2, bl2) B6 r := fun r h h' h'' => sm_trans (sm_trans (sm3 r h'') (sm4 r h)) (sm_trans (sm5 r h'') (sm6 r h'))
          have hb6 : Bod q G B6 bo := bod_sm hb2 fun r h _ => sm36 r (by omega) (by omega) (by omega)
          have hz' : Zs zz2 (upd zl l.length (jn (sz b))) (upd zr l.length (jn (sz b'))) ((b, b') :: l) := by
            refine ⟨if_pos rfl, if_pos rfl, seg_cong (fun j _ hj => k2' j ?_) p1, p2, zs_cong l (fun j hj => ?_) (fun j hj => if_neg (by omega)) (fun j hj => if_neg (by omega)) hz⟩
            · rw [enc_len] at hj
              omega
            · rw [k2' j (by omega), k1' j hj]
          obtain ⟨B7, O7, J7, Z7, sm7, m7⟩ := ih (B := B6) (O := O2) (J := J2) (n := n2) (s := a) (t := a') (l := (b, b') :: l) hb6 o1 o2 (by simp only [tot]; omega) (by omega) (row_sm (by omega) (sm_trans (sm5 0 (by omega)) (sm6 0 (by omega))) r4) r6 hz' hsw
          have key : ∀ w, lp_fm_areSame_12 fl (w + (g + 1)) G B O J (jn f, jn (f - n), jn 0) (jn l.length, jn (tot l), zz, zl, zr) (jn 1) = lp_fm_areSame_12 fl (w + g) G B6 O2 J2 (jn f, jn (f - n2), jn 0) (jn ((b, b') :: l).length, jn (tot ((b, b') :: l)), zz2, upd zl l.length (jn (sz b)), upd zr l.length (jn (sz b'))) (jn 1) := by
            intro w
            rw [show w + (g + 1) = w + g + 1 by omega, lp_fm_areSame_12]
            (repeat (first | (with_reducible refine ifn ?_ ?_; (focus (simp (disch := omega) only [jlo, jl0, jl1, jl2, jl3, jl4, jl5, jl9, jl10, jl12, jl16, jl30, jl60, jl63, jl64, jl80, jl100, jl120, jl512, jlM, jlm, j_lt, j_le, j_eq, j_add, j_mul, j_div, j_mod, j_sub, j_m1, j_nelt, j_melt, j_nele, j_mele, j_neeq, j_meeq, j_nat, j_bz0, j_bz1, jc_le0, jc_le1, jc_lt0, jc_lt1, jc_eq0, jc_eq1, Nat.not_lt_zero, Nat.zero_le, ne_eq, false_or, or_false, true_or, or_true, not_false_eq_true, not_true_eq_false, ↓reduceIte, Option.bind_some, Nat.add_sub_cancel, Nat.add_sub_cancel_left, reduceCtorEq, Option.some.injEq, Prod.mk.injEq, true_and, and_true, decide_true, decide_false, Bool.true_eq_false, Bool.false_eq_true, Bool.not_eq_true, Bool.not_eq_false, e1, e2, x1, x2, q_kind, hp, f1, f2, hl0, hl1, f3, f4, f5, f6, f7, f8]; done))) | (with_reducible refine ifp ?_ ?_; (focus (simp (disch := omega) only [jlo, jl0, jl1, jl2, jl3, jl4, jl5, jl9, jl10, jl12, jl16, jl30, jl60, jl63, jl64, jl80, jl100, jl120, jl512, jlM, jlm, j_lt, j_le, j_eq, j_add, j_mul, j_div, j_mod, j_sub, j_m1, j_nelt, j_melt, j_nele, j_mele, j_neeq, j_meeq, j_nat, j_bz0, j_bz1, jc_le0, jc_le1, jc_lt0, jc_lt1, jc_eq0, jc_eq1, Nat.not_lt_zero, Nat.zero_le, ne_eq, false_or, or_false, true_or, or_true, not_false_eq_true, not_true_eq_false, ↓reduceIte, Option.bind_some, Nat.add_sub_cancel, Nat.add_sub_cancel_left, reduceCtorEq, Option.some.injEq, Prod.mk.injEq, true_and, and_true, decide_true, decide_false, Bool.true_eq_false, Bool.false_eq_true, Bool.not_eq_true, Bool.not_eq_false, e1, e2, x1, x2, q_kind, hp, f1, f2, hl0, hl1, f3, f4, f5, f6, f7, f8]; done))) | (with_reducible apply bnd1; (focus ((try simp (disch := omega) only [jlo, jl0, jl1, jl2, jl3, jl4, jl5, jl9, jl10, jl12, jl16, jl30, jl60, jl63, jl64, jl80, jl100, jl120, jl512, jlM, jlm, j_lt, j_le, j_eq, j_add, j_mul, j_div, j_mod, j_sub, j_m1, j_nelt, j_melt, j_nele, j_mele, j_neeq, j_meeq, j_nat, j_bz0, j_bz1, jc_le0, jc_le1, jc_lt0, jc_lt1, jc_eq0, jc_eq1, Nat.not_lt_zero, Nat.zero_le, ne_eq, false_or, or_false, true_or, or_true, not_false_eq_true, not_true_eq_false, ↓reduceIte, Option.bind_some, Nat.add_sub_cancel, Nat.add_sub_cancel_left, reduceCtorEq, Option.some.injEq, Prod.mk.injEq, true_and, and_true, decide_true, decide_false, Bool.true_eq_false, Bool.false_eq_true, Bool.not_eq_true, Bool.not_eq_false, e1, e2, x1, x2, q_kind, hp, f1, f2, hl0, hl1, f3, f4, f5, f6, f7, f8]); exact rfl)); with_reducible refine bnd rfl ?_)))
            simp only [jl1, j_add, List.length_cons, tot]
          refine ⟨B7, O7, J7, Z7, fun r h h' h'' => sm_trans (sm12 r h h' h'') (sm_trans (sm36 r h h' h'') (sm7 r h h' h'')), ?_⟩
          simp only [key]
          split
          · exact ⟨by have := m7.1; omega, m7.2⟩
          · exact m7
