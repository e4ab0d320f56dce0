theorem lf_ok (i : Nat) : ∀ {t : tm}, wft t → wft (lf t i) ∧ dp (lf t i) ≤ dp t ∧ sz (lf t i) ≤ sz t := by
  induction i with
  | zero => intro t h; cases t <;> exact ⟨h, Nat.le_refl _, Nat.le_refl _⟩
  | succ i ih =>
    intro t h
    cases t with
    | leaf m => exact ⟨h, Nat.le_refl _, Nat.le_refl _⟩
    | branch k l r =>
      obtain ⟨h1, h2, h3⟩ := ih h.2.1
      have d1 : dp l ≤ Nat.max (dp l) (dp r) := Nat.le_max_left _ _
      exact ⟨h1, by simp only [lf, dp]; omega, by simp only [lf, sz]; omega⟩
theorem sub_sz {v : tm} (i : Nat) : ∀ {t : tm}, i ≤ ap t → sz v ≤ sz (sub v t i) := by
  induction i with
  | zero => intro t _; cases t <;> exact Nat.le_refl _
  | succ i ih =>
    intro t h
    cases t with
    | leaf m => simp only [ap] at h; omega
    | branch k l r =>
      by_cases hk : k = 4
      · simp only [ap, if_pos hk] at h
        have := ih (t := l) (by omega)
        simp only [sub, sz]
        omega
      · simp only [ap, if_neg hk] at h
        omega
/-- one reduction, in the class -/
theorem c_redn {fl q d : Nat} (hfl : 10000 ≤ fl) (hd40 : 40 ≤ d) {N : cN} {C : cC} {ct : Nat → tm} {bo : Nat → Option tm} (hN : NI N) (hC : CI q N C ct bo) {t t' : tm} {p c : Nat} (k n : Nat) (hc : c < 900) (hk : okt 10 q c t) (h : Rp N p t) (h60 : sz t ≤ 60) (hd : dp t ≤ 12) (he : nen N ≤ 25000) (hrd : rd bo t = some t') :
    ∃ N' k' n' p', Nst N k n N' k' n' ∧ Rp N' p' t' ∧ nen N' ≤ nen N + 4000 ∧ (sz t' ≤ 60 → nen N' ≤ nen N + 80) ∧ ∀ w v1 i fi se op fu ma, ma < fu → fu ≤ 30 → i ≤ 30 → lp_fE_headForm_4 fl d (w + 1) N C (fi, se, op, jn fu, jn ma) k n v1 (jn p) (jn i) =
      if sz t' ≤ 60 ∧ dp t' ≤ 12 then lp_fE_headForm_4 fl d w N' C (fi, se, op, jn fu, jn (ma + 1)) k' n' v1 (jn p') (jn (i + 1)) else some (.inr 2, N', (fi, se, op, jn fu, jn ma), (k' + 1, n' + 6)) := by
  have hq := hC.2.1
  have hw := okt_wft (by omega) (by omega) t hk (by omega)
  have hap := ap_dp t
  obtain ⟨z, hz, hz6, ⟨m, a, b, x, hm, hp, hlf, rfl, hzr⟩ | ⟨b, hp, hbo, h5, rfl, hzr⟩⟩ := (c_next hfl hN hC hw hk h hd).2 t' hrd
  · obtain ⟨wl, dl, sl⟩ := lf_ok m hw
    rw [hlf] at wl dl sl
    simp only [dp, sz] at dl sl
    have d1 : dp b ≤ Nat.max (dp a) (dp b) := Nat.le_max_right _ _
    have d2 : 1 + Nat.max (dp a) (dp b) ≤ Nat.max (1 + Nat.max (dp a) (dp b)) (dp x) := Nat.le_max_left _ _
    have d3 : dp x ≤ Nat.max (1 + Nat.max (dp a) (dp b)) (dp x) := Nat.le_max_right _ _
    have g1 := c_kind' hN hzr wl
    simp only [mk, Nat.reduceMod] at g1
    obtain ⟨u, v, g2, g3, fz, xz, rfl, rfl, hfz, hxz, hf6, hx6⟩ := c_left' hN hzr
    obtain ⟨u, v, g4, g5, az, bz, rfl, rfl, haz, hbz, ha6, hb6⟩ := c_left' hN hfz
    have hsz := sz_sbs (x := x) b (b := 0)
    have hmul : sz b * sz x ≤ 60 * 60 := Nat.mul_le_mul (by omega) (by omega)
    obtain ⟨N1, k1, n1, o, e1, s1, c1, r1⟩ := c_sbs wl.2.2 b (k := k) (n := n) (b := 0) (d := d) hN wl.2.1.2.2 hbz hxz (by omega) (by omega) (by omega) (by omega)
    have ho6 := (vd_lt s1.1 (rp_vd r1)).2
    -- the place stays down the left side
    have hp1 : Pl N1 p m z := by
      have hx : ∀ (i : Nat) {p : Nat} {t : tm}, Rp N p t → i ≤ ap t → Pl N p i z → Pl N1 p i z := by
        intro i
        induction i with
        | zero => intro p t _ _ h; exact h
        | succ i ih =>
          intro p t hr hi h
          cases t with
          | leaf m => simp only [ap] at hi; omega
          | branch k l r =>
            obtain ⟨a, ea, ha, h⟩ := h
            have hv := rp_vd hr
            obtain ⟨-, -, -, -, a', b', g5, g6, g7, g8⟩ := hr
            have la := (vd_lt hN (rp_vd g7)).2
            have ea' := g5.symm.trans ea
            rw [j_eq (by omega) (by omega)] at ea'
            subst ea'
            refine ⟨a', ((s1.2.1.2.2.2.2 p hv).2.1).trans ea, ha, ih g7 ?_ h⟩
            by_cases hk : k = 4
            · simp only [ap, if_pos hk] at hi
              omega
            · simp only [ap, if_neg hk] at hi
              omega
      exact hx m h (by omega) hp
    obtain ⟨N2, k2, n2, p2, e2, s2, c2, r2, z2⟩ := c_withHead m (k := k1) (n := n1) (d := d) s1.1 hw (rp_ex s1.2.1 t h) (by omega) hp1 r1 (by omega) (by omega) (by omega) (by omega)
    have hbig := c_big s2.1 r2 (by omega)
    have hss := sub_sz (v := sbs x 0 b) m (t := t) (by omega)
    refine ⟨N2, k2, n2, p2, nst_trans s1 s2, r2, by omega, fun _ => by omega, fun w v1 i fi se op fu ma hma hfu hi => ?_⟩
    by_cases hb : sz (sub (sbs x 0 b) t m) ≤ 60 ∧ dp (sub (sbs x 0 b) t m) ≤ 12
    · rw [if_pos hb]
      rw [decide_eq_false (fun h => h hb)] at hbig
      rw [lp_fE_headForm_4]
      (repeat (first | (with_reducible refine ifn ?_ ?_; (focus (simp (disch := omega) only [jlo, jl0, jl1, jl2, jl3, jl4, jl5, jl9, jl10, jl12, jl16, jl30, jl60, jl63, jl64, jl80, jl100, jl120, jl512, jlM, jlm, j_lt, j_le, j_eq, j_add, j_mul, j_div, j_mod, j_sub, j_m1, j_nelt, j_melt, j_nele, j_mele, j_neeq, j_meeq, j_nat, j_bz0, j_bz1, jc_le0, jc_le1, jc_lt0, jc_lt1, jc_eq0, jc_eq1, Nat.not_lt_zero, Nat.zero_le, ne_eq, false_or, or_false, true_or, or_true, not_false_eq_true, not_true_eq_false, ↓reduceIte, Option.bind_some, Nat.add_sub_cancel, Nat.add_sub_cancel_left, reduceCtorEq, Option.some.injEq, Prod.mk.injEq, true_and, and_true, decide_true, decide_false, Bool.true_eq_false, Bool.false_eq_true, Bool.not_eq_true, Bool.not_eq_false, hz, g1, g2, g3, g5, e1, e2, hbig]; done))) | (with_reducible refine ifp ?_ ?_; (focus (simp (disch := omega) only [jlo, jl0, jl1, jl2, jl3, jl4, jl5, jl9, jl10, jl12, jl16, jl30, jl60, jl63, jl64, jl80, jl100, jl120, jl512, jlM, jlm, j_lt, j_le, j_eq, j_add, j_mul, j_div, j_mod, j_sub, j_m1, j_nelt, j_melt, j_nele, j_mele, j_neeq, j_meeq, j_nat, j_bz0, j_bz1, jc_le0, jc_le1, jc_lt0, jc_lt1, jc_eq0, jc_eq1, Nat.not_lt_zero, Nat.zero_le, ne_eq, false_or, or_false, true_or, or_true, not_false_eq_true, not_true_eq_false, ↓reduceIte, Option.bind_some, Nat.add_sub_cancel, Nat.add_sub_cancel_left, reduceCtorEq, Option.some.injEq, Prod.mk.injEq, true_and, and_true, decide_true, decide_false, Bool.true_eq_false, Bool.false_eq_true, Bool.not_eq_true, Bool.not_eq_false, hz, g1, g2, g3, g5, e1, e2, hbig]; done))) | (with_reducible apply bnd1; (focus ((try simp (disch := omega) only [jlo, jl0, jl1, jl2, jl3, jl4, jl5, jl9, jl10, jl12, jl16, jl30, jl60, jl63, jl64, jl80, jl100, jl120, jl512, jlM, jlm, j_lt, j_le, j_eq, j_add, j_mul, j_div, j_mod, j_sub, j_m1, j_nelt, j_melt, j_nele, j_mele, j_neeq, j_meeq, j_nat, j_bz0, j_bz1, jc_le0, jc_le1, jc_lt0, jc_lt1, jc_eq0, jc_eq1, Nat.not_lt_zero, Nat.zero_le, ne_eq, false_or, or_false, true_or, or_true, not_false_eq_true, not_true_eq_false, ↓reduceIte, Option.bind_some, Nat.add_sub_cancel, Nat.add_sub_cancel_left, reduceCtorEq, Option.some.injEq, Prod.mk.injEq, true_and, and_true, decide_true, decide_false, Bool.true_eq_false, Bool.false_eq_true, Bool.not_eq_true, Bool.not_eq_false, hz, g1, g2, g3, g5, e1, e2, hbig]); exact rfl)); with_reducible refine bnd rfl ?_)))
      simp only [jl1, j_add]
    · rw [if_neg hb]
      rw [decide_eq_true hb] at hbig
      rw [lp_fE_headForm_4]
      (repeat (first | (with_reducible refine ifn ?_ ?_; (focus (simp (disch := omega) only [jlo, jl0, jl1, jl2, jl3, jl4, jl5, jl9, jl10, jl12, jl16, jl30, jl60, jl63, jl64, jl80, jl100, jl120, jl512, jlM, jlm, j_lt, j_le, j_eq, j_add, j_mul, j_div, j_mod, j_sub, j_m1, j_nelt, j_melt, j_nele, j_mele, j_neeq, j_meeq, j_nat, j_bz0, j_bz1, jc_le0, jc_le1, jc_lt0, jc_lt1, jc_eq0, jc_eq1, Nat.not_lt_zero, Nat.zero_le, ne_eq, false_or, or_false, true_or, or_true, not_false_eq_true, not_true_eq_false, ↓reduceIte, Option.bind_some, Nat.add_sub_cancel, Nat.add_sub_cancel_left, reduceCtorEq, Option.some.injEq, Prod.mk.injEq, true_and, and_true, decide_true, decide_false, Bool.true_eq_false, Bool.false_eq_true, Bool.not_eq_true, Bool.not_eq_false, hz, g1, g2, g3, g5, e1, e2, hbig]; done))) | (with_reducible refine ifp ?_ ?_; (focus (simp (disch := omega) only [jlo, jl0, jl1, jl2, jl3, jl4, jl5, jl9, jl10, jl12, jl16, jl30, jl60, jl63, jl64, jl80, jl100, jl120, jl512, jlM, jlm, j_lt, j_le, j_eq, j_add, j_mul, j_div, j_mod, j_sub, j_m1, j_nelt, j_melt, j_nele, j_mele, j_neeq, j_meeq, j_nat, j_bz0, j_bz1, jc_le0, jc_le1, jc_lt0, jc_lt1, jc_eq0, jc_eq1, Nat.not_lt_zero, Nat.zero_le, ne_eq, false_or, or_false, true_or, or_true, not_false_eq_true, not_true_eq_false, ↓reduceIte, Option.bind_some, Nat.add_sub_cancel, Nat.add_sub_cancel_left, reduceCtorEq, Option.some.injEq, Prod.mk.injEq, true_and, and_true, decide_true, decide_false, Bool.true_eq_false, Bool.false_eq_true, Bool.not_eq_true, Bool.not_eq_false, hz, g1, g2, g3, g5, e1, e2, hbig]; done))) | (with_reducible apply bnd1; (focus ((try simp (disch := omega) only [jlo, jl0, jl1, jl2, jl3, jl4, jl5, jl9, jl10, jl12, jl16, jl30, jl60, jl63, jl64, jl80, jl100, jl120, jl512, jlM, jlm, j_lt, j_le, j_eq, j_add, j_mul, j_div, j_mod, j_sub, j_m1, j_nelt, j_melt, j_nele, j_mele, j_neeq, j_meeq, j_nat, j_bz0, j_bz1, jc_le0, jc_le1, jc_lt0, jc_lt1, jc_eq0, jc_eq1, Nat.not_lt_zero, Nat.zero_le, ne_eq, false_or, or_false, true_or, or_true, not_false_eq_true, not_true_eq_false, ↓reduceIte, Option.bind_some, Nat.add_sub_cancel, Nat.add_sub_cancel_left, reduceCtorEq, Option.some.injEq, Prod.mk.injEq, true_and, and_true, decide_true, decide_false, Bool.true_eq_false, Bool.false_eq_true, Bool.not_eq_true, Bool.not_eq_false, hz, g1, g2, g3, g5, e1, e2, hbig]); exact rfl)); with_reducible refine bnd rfl ?_)))
      rfl
  · have hcq := okt_hm t hk h5
    obtain ⟨-, h3⟩ := hC.2.2 _ hcq
    have hbd := (c_body hC hcq).1
    rw [hbo] at h3
    obtain ⟨bp, hb1, hb2, hb3, hb4, hb5⟩ := h3
    rw [hb1] at hbd
    have hb6 := (vd_lt hN (rp_vd hb2)).2
    have hmb := hm_bound hw
    have g1 := c_kind' hN hzr ⟨hmb.1, .inr (.inr h5)⟩
    simp only [mk, h5] at g1
    obtain ⟨u, v, g2, g3, rfl, rfl⟩ := c_left' hN hzr
    obtain ⟨N2, k2, n2, p2, e2, s2, c2, r2, z2⟩ := c_withHead (ap t) (k := k) (n := n) (d := d) hN hw h (Nat.le_refl _) hp hb2 (by omega) (by omega) (by omega) (by omega)
    have hbig := c_big s2.1 r2 (by omega)
    refine ⟨N2, k2, n2, p2, s2, r2, by omega, fun _ => by omega, fun w v1 i fi se op fu ma hma hfu hi => ?_⟩
    by_cases hb : sz (sub b t (ap t)) ≤ 60 ∧ dp (sub b t (ap t)) ≤ 12
    · rw [if_pos hb]
      rw [decide_eq_false (fun h => h hb)] at hbig
      rw [lp_fE_headForm_4]
      (repeat (first | (with_reducible refine ifn ?_ ?_; (focus (simp (disch := omega) only [jlo, jl0, jl1, jl2, jl3, jl4, jl5, jl9, jl10, jl12, jl16, jl30, jl60, jl63, jl64, jl80, jl100, jl120, jl512, jlM, jlm, j_lt, j_le, j_eq, j_add, j_mul, j_div, j_mod, j_sub, j_m1, j_nelt, j_melt, j_nele, j_mele, j_neeq, j_meeq, j_nat, j_bz0, j_bz1, jc_le0, jc_le1, jc_lt0, jc_lt1, jc_eq0, jc_eq1, Nat.not_lt_zero, Nat.zero_le, ne_eq, false_or, or_false, true_or, or_true, not_false_eq_true, not_true_eq_false, ↓reduceIte, Option.bind_some, Nat.add_sub_cancel, Nat.add_sub_cancel_left, reduceCtorEq, Option.some.injEq, Prod.mk.injEq, true_and, and_true, decide_true, decide_false, Bool.true_eq_false, Bool.false_eq_true, Bool.not_eq_true, Bool.not_eq_false, hz, g1, g2, hbd, e2, hbig]; done))) | (with_reducible refine ifp ?_ ?_; (focus (simp (disch := omega) only [jlo, jl0, jl1, jl2, jl3, jl4, jl5, jl9, jl10, jl12, jl16, jl30, jl60, jl63, jl64, jl80, jl100, jl120, jl512, jlM, jlm, j_lt, j_le, j_eq, j_add, j_mul, j_div, j_mod, j_sub, j_m1, j_nelt, j_melt, j_nele, j_mele, j_neeq, j_meeq, j_nat, j_bz0, j_bz1, jc_le0, jc_le1, jc_lt0, jc_lt1, jc_eq0, jc_eq1, Nat.not_lt_zero, Nat.zero_le, ne_eq, false_or, or_false, true_or, or_true, not_false_eq_true, not_true_eq_false, ↓reduceIte, Option.bind_some, Nat.add_sub_cancel, Nat.add_sub_cancel_left, reduceCtorEq, Option.some.injEq, Prod.mk.injEq, true_and, and_true, decide_true, decide_false, Bool.true_eq_false, Bool.false_eq_true, Bool.not_eq_true, Bool.not_eq_false, hz, g1, g2, hbd, e2, hbig]; done))) | (with_reducible apply bnd1; (focus ((try simp (disch := omega) only [jlo, jl0, jl1, jl2, jl3, jl4, jl5, jl9, jl10, jl12, jl16, jl30, jl60, jl63, jl64, jl80, jl100, jl120, jl512, jlM, jlm, j_lt, j_le, j_eq, j_add, j_mul, j_div, j_mod, j_sub, j_m1, j_nelt, j_melt, j_nele, j_mele, j_neeq, j_meeq, j_nat, j_bz0, j_bz1, jc_le0, jc_le1, jc_lt0, jc_lt1, jc_eq0, jc_eq1, Nat.not_lt_zero, Nat.zero_le, ne_eq, false_or, or_false, true_or, or_true, not_false_eq_true, not_true_eq_false, ↓reduceIte, Option.bind_some, Nat.add_sub_cancel, Nat.add_sub_cancel_left, reduceCtorEq, Option.some.injEq, Prod.mk.injEq, true_and, and_true, decide_true, decide_false, Bool.true_eq_false, Bool.false_eq_true, Bool.not_eq_true, Bool.not_eq_false, hz, g1, g2, hbd, e2, hbig]); exact rfl)); with_reducible refine bnd rfl ?_)))
      simp only [jl1, j_add]
    · rw [if_neg hb]
      rw [decide_eq_true hb] at hbig
      rw [lp_fE_headForm_4]
      (repeat (first | (with_reducible refine ifn ?_ ?_; (focus (simp (disch := omega) only [jlo, jl0, jl1, jl2, jl3, jl4, jl5, jl9, jl10, jl12, jl16, jl30, jl60, jl63, jl64, jl80, jl100, jl120, jl512, jlM, jlm, j_lt, j_le, j_eq, j_add, j_mul, j_div, j_mod, j_sub, j_m1, j_nelt, j_melt, j_nele, j_mele, j_neeq, j_meeq, j_nat, j_bz0, j_bz1, jc_le0, jc_le1, jc_lt0, jc_lt1, jc_eq0, jc_eq1, Nat.not_lt_zero, Nat.zero_le, ne_eq, false_or, or_false, true_or, or_true, not_false_eq_true, not_true_eq_false, ↓reduceIte, Option.bind_some, Nat.add_sub_cancel, Nat.add_sub_cancel_left, reduceCtorEq, Option.some.injEq, Prod.mk.injEq, true_and, and_true, decide_true, decide_false, Bool.true_eq_false, Bool.false_eq_true, Bool.not_eq_true, Bool.not_eq_false, hz, g1, g2, hbd, e2, hbig]; done))) | (with_reducible refine ifp ?_ ?_; (focus (simp (disch := omega) only [jlo, jl0, jl1, jl2, jl3, jl4, jl5, jl9, jl10, jl12, jl16, jl30, jl60, jl63, jl64, jl80, jl100, jl120, jl512, jlM, jlm, j_lt, j_le, j_eq, j_add, j_mul, j_div, j_mod, j_sub, j_m1, j_nelt, j_melt, j_nele, j_mele, j_neeq, j_meeq, j_nat, j_bz0, j_bz1, jc_le0, jc_le1, jc_lt0, jc_lt1, jc_eq0, jc_eq1, Nat.not_lt_zero, Nat.zero_le, ne_eq, false_or, or_false, true_or, or_true, not_false_eq_true, not_true_eq_false, ↓reduceIte, Option.bind_some, Nat.add_sub_cancel, Nat.add_sub_cancel_left, reduceCtorEq, Option.some.injEq, Prod.mk.injEq, true_and, and_true, decide_true, decide_false, Bool.true_eq_false, Bool.false_eq_true, Bool.not_eq_true, Bool.not_eq_false, hz, g1, g2, hbd, e2, hbig]; done))) | (with_reducible apply bnd1; (focus ((try simp (disch := omega) only [jlo, jl0, jl1, jl2, jl3, jl4, jl5, jl9, jl10, jl12, jl16, jl30, jl60, jl63, jl64, jl80, jl100, jl120, jl512, jlM, jlm, j_lt, j_le, j_eq, j_add, j_mul, j_div, j_mod, j_sub, j_m1, j_nelt, j_melt, j_nele, j_mele, j_neeq, j_meeq, j_nat, j_bz0, j_bz1, jc_le0, jc_le1, jc_lt0, jc_lt1, jc_eq0, jc_eq1, Nat.not_lt_zero, Nat.zero_le, ne_eq, false_or, or_false, true_or, or_true, not_false_eq_true, not_true_eq_false, ↓reduceIte, Option.bind_some, Nat.add_sub_cancel, Nat.add_sub_cancel_left, reduceCtorEq, Option.some.injEq, Prod.mk.injEq, true_and, and_true, decide_true, decide_false, Bool.true_eq_false, Bool.false_eq_true, Bool.not_eq_true, Bool.not_eq_false, hz, g1, g2, hbd, e2, hbig]); exact rfl)); with_reducible refine bnd rfl ?_)))
      rfl
