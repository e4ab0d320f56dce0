def cutN (N : cN) (m : Nat) : cN := (N.1, N.2.1, N.2.2.1, N.2.2.2.1, N.2.2.2.2.1, N.2.2.2.2.2.1, jn m, N.2.2.2.2.2.2.2)
theorem iv_tab {q : Nat} {N M : cN} {C : cC} {P P' : cP} {T T' : cT} {G : cG} {H : cH} {B : cB} {ct : Nat → tm} {bo : Nat → Option tm} (h : Iv q N C P T G H B ct bo) (hP1 : P'.1 = P.1) (hP2 : P'.2.1 = P.2.1) (hM : NI M) (hm : nmt M = nmt N) (hle : nle M = nle N) (hx : Gx (dr N) (dr M)) (hT' : ∀ p, p < nmt N → T'.2.1 p = T.2.1 p ∧ T'.2.2.1 p = T.2.2.1 p ∧ T'.2.2.2.1 p = T.2.2.2.1 p ∧ T'.2.2.2.2.1 p = T.2.2.2.2.1 p ∧ T'.2.2.2.2.2 p = T.2.2.2.2.2 p) :
    Iv q M C P' (jn (nmt N), T'.2) G H B ct bo := by
  obtain ⟨h1, h2, h3, h4, h5, h6, h7, h8⟩ := h
  refine ⟨hM, by omega, ⟨?_, fun p hp => ?_⟩, ci_gx hx h4, h5, h6, h7, ?_⟩
  · have : nmt (dr M) = nmt M := rfl
    rw [this, hm]
  · have hp' : p < nmt N := by
      have : nmt (dr M) = nmt M := rfl
      omega
    obtain ⟨⟨e1, e2, e3, e4, e5⟩, t, g1, g2, g3⟩ := h3.2 p hp'
    obtain ⟨-, a1, a2, a3, a4, a5⟩ := hx p (.inl hp')
    obtain ⟨b1, b2, b3, b4, b5⟩ := hT' p hp'
    refine ⟨⟨(b1.trans e1).trans a1.symm, (b2.trans e2).trans a2.symm, (b3.trans e3).trans a3.symm, (b4.trans e4).trans a4.symm, (b5.trans e5).trans a5.symm⟩, t, rp_gx hx t g1, ?_, g3⟩
    have : nmt (dr M) = nmt N := hm
    rw [this]
    exact tr_mono (Nat.le_refl _) (fun x hx => ⟨(hT' x hx).1, (hT' x hx).2.1, (hT' x hx).2.2.1⟩) t g2
  · rcases h8 with ⟨x1, x2⟩ | ⟨x1, t, x2, x3, x4, x5, x6, x7⟩
    · exact .inl ⟨x1, hP2.trans x2⟩
    · exact .inr ⟨x1, t, x2, x3, x4, hP2.trans x5, by rw [hP1]; exact x6, x7⟩
theorem iv_p {q : Nat} {N : cN} {C : cC} {P P' : cP} {T : cT} {G : cG} {H : cH} {B : cB} {ct : Nat → tm} {bo : Nat → Option tm} (h : Iv q N C P T G H B ct bo) (hP1 : P'.1 = P.1) (hP2 : P'.2.1 = P.2.1) : Iv q N C P' T G H B ct bo := by
  obtain ⟨h1, h2, h3, h4, h5, h6, h7, h8⟩ := h
  refine ⟨h1, h2, h3, h4, h5, h6, h7, ?_⟩
  rcases h8 with ⟨x1, x2⟩ | ⟨x1, t, x2, x3, x4, x5, x6, x7⟩
  · exact .inl ⟨x1, hP2.trans x2⟩
  · exact .inr ⟨x1, t, x2, x3, x4, hP2.trans x5, by rw [hP1]; exact x6, x7⟩
theorem cut_ni {N N' : cN} (hN : NI N) (hN' : NI N') (hle : N'.2.2.2.2.2.2.2 = N.2.2.2.2.2.2.2) : NI (cutN N' (nmt N)) ∧ nmt (cutN N' (nmt N)) = nmt N ∧ nle (cutN N' (nmt N)) = nle N := by
  obtain ⟨h1, h2, h3, h4, h5, h6, h7, h8, h9⟩ := hN'
  have hm : nmt N ≤ 120 := hN.2.2.2.1
  have e : nmt (cutN N' (nmt N)) = nmt N := j_nat (by omega)
  refine ⟨⟨?_, h2, h3, by omega, h5, h6, h7, h8, h9⟩, e, ?_⟩
  · rw [e]
    rfl
  · have : nle (cutN N' (nmt N)) = nle N' := rfl
    rw [this]
    unfold nle
    rw [hle]
theorem cut_gx {N N' : cN} (hN : NI N) {T T' : cT} (h : Nx N T N' T') : Gx (dr N) (dr (cutN N' (nmt N))) := by
  have hm : nmt N ≤ 120 := hN.2.2.2.1
  have e : nmt (cutN N' (nmt N)) = nmt N := j_nat (by omega)
  intro p hp
  obtain ⟨-, a⟩ := h.2.1 p hp
  refine ⟨?_, a⟩
  have e2 : nmt (dr (cutN N' (nmt N))) = nmt (dr N) := e
  have e3 : nen (dr (cutN N' (nmt N))) = nen (dr N) := by
    show (N'.2.2.2.2.2.2.2.1).toNatClampNeg = N.2.2.2.2.2.2.2.1.toNatClampNeg
    rw [h.2.2.1]
  unfold vd at hp ⊢
  omega
theorem b_keep {fl d q : Nat} (hfl : 10000 ≤ fl) (hd : 100 ≤ d) {N : cN} {C : cC} {P : cP} {T : cT} {G : cG} {H : cH} {B : cB} {ct : Nat → tm} {bo : Nat → Option tm} (h : Iv q N C P T G H B ct bo) (k n : Nat) (U : cU) (J : cJ) :
    ∃ x N' P' T' U' J', fJ_keep fl d N P k n = some (x, N', P', (k, n)) ∧ fm_keep fl T G U H B J = some (x, T', U', J') ∧ Iv q N' C P' T' G H B ct bo ∧ ncap N' = ncap N := by
  have hiv := h
  obtain ⟨hN, -, hT, hC, -, -, -, hrs⟩ := h
  have hq : q ≤ 16 := hC.2.1
  have h120 : nmt N ≤ 120 := hN.2.2.2.1
  obtain ⟨pr, pl, px⟩ := P
  rcases hrs with ⟨h1, h2⟩ | ⟨h1, t, hk, h60, hdp, h2, h3, h4⟩
  · have h2 : pl = jn 0 := h2
    subst h1 h2
    refine ⟨jng, N, _, T, jn 0, J, ?_, ?_, hiv, rfl⟩
    · unfold fJ_keep
      refine bnd (a := true) ?_ (ifp (by decide) rfl)
      unfold fM_isEmpty_P
      exact ifn (by decide) rfl
    · unfold fm_keep
      exact ifn (by decide) rfl
  · have h2 : pl = jn (sz t) := h2
    subst h1 h2
    have hsz := sz_pos t
    have hw := wf9 hq hk (by omega) hdp
    have hlt := enc_lt t hw
    obtain ⟨br, bl⟩ := B
    have hbl : bl 2 = jn (sz t) := h4.1
    have hemp : fM_isEmpty_P (pr, jn (sz t), px) = some false := by
      unfold fM_isEmpty_P
      (repeat (first | (with_reducible refine ifn ?_ ?_; (focus (simp (disch := omega) only [jlo, jl0, jl1, jl2, jl3, jl4, jl5, jl9, jl10, jl12, jl16, jl30, jl60, jl63, jl64, jl80, jl100, jl120, jl512, jlM, jlm, j_lt, j_le, j_eq, j_add, j_mul, j_div, j_mod, j_sub, j_m1, j_nelt, j_melt, j_nele, j_mele, j_neeq, j_meeq, j_nat, j_bz0, j_bz1, jc_le0, jc_le1, jc_lt0, jc_lt1, jc_eq0, jc_eq1, Nat.not_lt_zero, Nat.zero_le, ne_eq, false_or, or_false, true_or, or_true, not_false_eq_true, not_true_eq_false, ↓reduceIte, Option.bind_some, Nat.add_sub_cancel, Nat.add_sub_cancel_left, reduceCtorEq, Option.some.injEq, Prod.mk.injEq, true_and, and_true, decide_true, decide_false, Bool.true_eq_false, Bool.false_eq_true, Bool.not_eq_true, Bool.not_eq_false]; done))) | (with_reducible refine ifp ?_ ?_; (focus (simp (disch := omega) only [jlo, jl0, jl1, jl2, jl3, jl4, jl5, jl9, jl10, jl12, jl16, jl30, jl60, jl63, jl64, jl80, jl100, jl120, jl512, jlM, jlm, j_lt, j_le, j_eq, j_add, j_mul, j_div, j_mod, j_sub, j_m1, j_nelt, j_melt, j_nele, j_mele, j_neeq, j_meeq, j_nat, j_bz0, j_bz1, jc_le0, jc_le1, jc_lt0, jc_lt1, jc_eq0, jc_eq1, Nat.not_lt_zero, Nat.zero_le, ne_eq, false_or, or_false, true_or, or_true, not_false_eq_true, not_true_eq_false, ↓reduceIte, Option.bind_some, Nat.add_sub_cancel, Nat.add_sub_cancel_left, reduceCtorEq, Option.some.injEq, Prod.mk.injEq, true_and, and_true, decide_true, decide_false, Bool.true_eq_false, Bool.false_eq_true, Bool.not_eq_true, Bool.not_eq_false]; done))) | (with_reducible apply bnd1; (focus ((try simp (disch := omega) only [jlo, jl0, jl1, jl2, jl3, jl4, jl5, jl9, jl10, jl12, jl16, jl30, jl60, jl63, jl64, jl80, jl100, jl120, jl512, jlM, jlm, j_lt, j_le, j_eq, j_add, j_mul, j_div, j_mod, j_sub, j_m1, j_nelt, j_melt, j_nele, j_mele, j_neeq, j_meeq, j_nat, j_bz0, j_bz1, jc_le0, jc_le1, jc_lt0, jc_lt1, jc_eq0, jc_eq1, Nat.not_lt_zero, Nat.zero_le, ne_eq, false_or, or_false, true_or, or_true, not_false_eq_true, not_true_eq_false, ↓reduceIte, Option.bind_some, Nat.add_sub_cancel, Nat.add_sub_cancel_left, reduceCtorEq, Option.some.injEq, Prod.mk.injEq, true_and, and_true, decide_true, decide_false, Bool.true_eq_false, Bool.false_eq_true, Bool.not_eq_true, Bool.not_eq_false]); exact rfl)); with_reducible refine bnd rfl ?_)))
      rfl
    have htg : ∀ kk, kk < 10 → fM_hasTooGreat_P fl (pr, jn (sz t), px) (jn kk) = some (tg kk (enc t)) := by
      intro kk hkk
      have := c_tgP (fl := fl) hkk h60 (qx := px) (enc t) (qr := pr) (i := 0) hlt (by rw [enc_len]; omega) h3 (fl - sz t - 1)
      rw [enc_len, show fl - sz t - 1 + sz t + 1 = fl by omega] at this
      exact this
    have htc : fN_termCount N = some (jn (nmt N)) := by
      have h1 : N.2.2.2.2.2.2.1 = jn (nmt N) := hN.1
      rw [← h1]
      rfl
    have hlv := lvs_tg t hk
    have hk0 : fm_keep fl T G U (jn 1) (br, bl) J = lp_fm_keep_26 fl fl T G (jn 0) (jn 1) (br, bl) J (jn (nmt N)) (jn 0) jng (jn 0) := by
      have h1 : T.1 = jn (nmt N) := hT.1
      unfold fm_keep
      refine ifp (by decide) ?_
      obtain ⟨te, tk, ta, tb, tn, td⟩ := T
      have h1 : te = jn (nmt N) := h1
      subst h1
      rfl
    rcases b_keep_t hfl h60 (pr := pr) hbl (v1 := jn (nmt N)) k n t (U := jn 0) (J := J) (d := d) (i := 0) (n := 0) (c := 10) hiv hk (by omega) h60 hdp (by omega) (by omega) h3 h4.2 (by omega) with ⟨lv, N', T', U', J', p, e1, iv', nx, hp, -, -, -, run⟩ | ⟨N', T', U', J', nx, hN', cls, run⟩
    · obtain ⟨g1, g0⟩ := hlv.mp lv
      have hp120 : nmt N' ≤ 120 := iv'.1.2.2.2.1
      have ht1 := htg 1 (by omega)
      have ht0 := htg 0 (by omega)
      rw [g1] at ht1
      rw [g0] at ht0
      obtain ⟨g, v5, hg, e⟩ := run (fl - sz t) jng
      obtain ⟨g, rfl⟩ : ∃ g', g = g' + 1 := ⟨g - 1, by omega⟩
      rw [show fl - sz t + sz t = fl by omega, k_done (by omega) (by omega)] at e
      refine ⟨jn p, N', (pr, jn (sz t), jn (0 + sz t)), T', U', J', ?_, ?_, iv_p iv' rfl rfl, nx.2.2.2.1⟩
      · unfold fJ_keep fM_read_P
        refine bnd hemp (ifn (by decide) (bnd ht1 (ifn (by decide) (bnd ht0 (ifp rfl (bnd htc (bnd (bnd e1 rfl) (ifp ?_ rfl))))))))
        rw [show (-1 : Int32) = jng from rfl, ne_eq, j_neeq (by omega)]
        exact fun h => h
      · rw [hk0, e, show 0 + sz t - 1 + 1 = sz t by omega]
        obtain ⟨w, hw9⟩ : ∃ w, fl - sz t = w + 1 := ⟨fl - sz t - 1, by omega⟩
        rw [hw9, lp_fm_keep_26]
        (repeat (first | (with_reducible refine ifn ?_ ?_; (focus (simp (disch := omega) only [jlo, jl0, jl1, jl2, jl3, jl4, jl5, jl9, jl10, jl12, jl16, jl30, jl60, jl63, jl64, jl80, jl100, jl120, jl512, jlM, jlm, j_lt, j_le, j_eq, j_add, j_mul, j_div, j_mod, j_sub, j_m1, j_nelt, j_melt, j_nele, j_mele, j_neeq, j_meeq, j_nat, j_bz0, j_bz1, jc_le0, jc_le1, jc_lt0, jc_lt1, jc_eq0, jc_eq1, Nat.not_lt_zero, Nat.zero_le, ne_eq, false_or, or_false, true_or, or_true, not_false_eq_true, not_true_eq_false, ↓reduceIte, Option.bind_some, Nat.add_sub_cancel, Nat.add_sub_cancel_left, reduceCtorEq, Option.some.injEq, Prod.mk.injEq, true_and, and_true, decide_true, decide_false, Bool.true_eq_false, Bool.false_eq_true, Bool.not_eq_true, Bool.not_eq_false, hbl]; done))) | (with_reducible refine ifp ?_ ?_; (focus (simp (disch := omega) only [jlo, jl0, jl1, jl2, jl3, jl4, jl5, jl9, jl10, jl12, jl16, jl30, jl60, jl63, jl64, jl80, jl100, jl120, jl512, jlM, jlm, j_lt, j_le, j_eq, j_add, j_mul, j_div, j_mod, j_sub, j_m1, j_nelt, j_melt, j_nele, j_mele, j_neeq, j_meeq, j_nat, j_bz0, j_bz1, jc_le0, jc_le1, jc_lt0, jc_lt1, jc_eq0, jc_eq1, Nat.not_lt_zero, Nat.zero_le, ne_eq, false_or, or_false, true_or, or_true, not_false_eq_true, not_true_eq_false, ↓reduceIte, Option.bind_some, Nat.add_sub_cancel, Nat.add_sub_cancel_left, reduceCtorEq, Option.some.injEq, Prod.mk.injEq, true_and, and_true, decide_true, decide_false, Bool.true_eq_false, Bool.false_eq_true, Bool.not_eq_true, Bool.not_eq_false, hbl]; done))) | (with_reducible apply bnd1; (focus ((try simp (disch := omega) only [jlo, jl0, jl1, jl2, jl3, jl4, jl5, jl9, jl10, jl12, jl16, jl30, jl60, jl63, jl64, jl80, jl100, jl120, jl512, jlM, jlm, j_lt, j_le, j_eq, j_add, j_mul, j_div, j_mod, j_sub, j_m1, j_nelt, j_melt, j_nele, j_mele, j_neeq, j_meeq, j_nat, j_bz0, j_bz1, jc_le0, jc_le1, jc_lt0, jc_lt1, jc_eq0, jc_eq1, Nat.not_lt_zero, Nat.zero_le, ne_eq, false_or, or_false, true_or, or_true, not_false_eq_true, not_true_eq_false, ↓reduceIte, Option.bind_some, Nat.add_sub_cancel, Nat.add_sub_cancel_left, reduceCtorEq, Option.some.injEq, Prod.mk.injEq, true_and, and_true, decide_true, decide_false, Bool.true_eq_false, Bool.false_eq_true, Bool.not_eq_true, Bool.not_eq_false, hbl]); exact rfl)); with_reducible refine bnd rfl ?_)))
        rfl
    · have hT2 := nx.2.2.2.2
      have e := run (fl - sz t) jng
      rw [show fl - sz t + sz t = fl by omega] at e
      by_cases lv : lvs q t
      · obtain ⟨g1, g0⟩ := hlv.mp lv
        have ht1 := htg 1 (by omega)
        have ht0 := htg 0 (by omega)
        rw [g1] at ht1
        rw [g0] at ht0
        obtain ⟨x, e1⟩ := cls lv
        obtain ⟨c1, c2, c3⟩ := cut_ni hN hN' nx.2.2.1
        refine ⟨jng, cutN N' (nmt N), (pr, jn (sz t), x), (jn (nmt N), T'.2), U', J', ?_, hk0.trans e, iv_tab hiv rfl rfl c1 c2 c3 (cut_gx hN nx) hT2, nx.2.2.2.1⟩
        unfold fJ_keep fM_read_P
        exact bnd hemp (ifn (by decide) (bnd ht1 (ifn (by decide) (bnd ht0 (ifp rfl (bnd htc (bnd (bnd e1 rfl) (ifn (by decide) (bnd rfl rfl)))))))))
      · refine ⟨jng, N, (pr, jn (sz t), px), (jn (nmt N), T'.2), U', J', ?_, hk0.trans e, iv_tab hiv rfl rfl hN rfl rfl (fun p hp => ⟨hp, rfl, rfl, rfl, rfl, rfl⟩) hT2, rfl⟩
        have ht1 := htg 1 (by omega)
        have ht0 := htg 0 (by omega)
        unfold fJ_keep
        by_cases g1 : tg 1 (enc t) = true
        · rw [g1] at ht1
          exact bnd hemp (ifn (by decide) (bnd ht1 (ifp (by decide) rfl)))
        · have g1 := Bool.eq_false_iff.mpr g1
          have g0 : tg 0 (enc t) = true := by
            by_cases g0 : tg 0 (enc t) = true
            · exact g0
            · exact absurd (hlv.mpr ⟨g1, Bool.eq_false_iff.mpr g0⟩) lv
          rw [g1] at ht1
          rw [g0] at ht0
          exact bnd hemp (ifn (by decide) (bnd ht1 (ifn (by decide) (bnd ht0 (ifn (by decide) rfl)))))
