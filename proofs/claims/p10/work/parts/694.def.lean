theorem q_def {fl L : Nat} (hL : L ≤ 60) {T : cT} {G : cG} {U : cU} {O : cO} {J : cJ} {V : cV} {Y : cY} {Z : cZ} {v1 v2 : Int32} {br bl : Nat → Int32} (hbl : bl 63 = jn L) (ys : List Nat) : ∀ {i : Nat}, (∀ m, m ∈ ys → m < 10000) → i + ys.length = L → Seg br (60 * 63 + i) ys → ∀ w, lp_fm_define_59 fl (w + ys.length + 1) T G U (br, bl) O J V Y Z v1 v2 (jn i) = if tg 1 ys = true then some (jng, G, U, (br, bl), O, J, V, Y, Z) else lp_fm_define_59 fl (w + 1) T G U (br, bl) O J V Y Z v1 v2 (jn L) := by
  induction ys with
  | nil =>
    intro i _ hi _ w
    simp only [List.length_nil, Nat.add_zero] at *
    subst hi
    rfl
  | cons y ys ih =>
    intro i hm hi hs w
    simp only [List.length_cons] at hi
    have hy := hm y (List.mem_cons_self ..)
    have ha : fm_at (br, bl) (jn 63) (jn i) = some (br (60 * 63 + i)) := q_at (by omega)
    rw [show br (60 * 63 + i) = jn y from hs.1] at ha
    have hk := q_kind hy
    have h1 := ih (i := i + 1) (fun m h => hm m (List.mem_cons_of_mem _ h)) (by omega) hs.2 w
    rw [show w + (y :: ys).length + 1 = w + ys.length + 1 + 1 by simp only [List.length_cons]; omega]
    conv => lhs; rw [lp_fm_define_59]
    by_cases c1 : y % 10 = 1
    · by_cases c2 : y / 10 ≤ 9
      · rw [show tg 1 (y :: ys) = tg 1 ys by simp only [tg, List.any_cons]; rw [decide_eq_false (by omega : ¬ 9 < y / 10)]; simp]
        have c3 : y ≤ 100 := by omega
        (repeat (first | (with_reducible refine ifn ?_ ?_; (focus (simp (disch := omega) only [jlo, jl0, jl1, jl2, jl3, jl4, jl5, jl9, jl10, jl12, jl16, jl30, jl60, jl63, jl64, jl80, jl100, jl120, jl512, jlM, jlm, j_lt, j_le, j_eq, j_add, j_mul, j_div, j_mod, j_sub, j_m1, j_nelt, j_melt, j_nele, j_mele, j_neeq, j_meeq, j_nat, j_bz0, j_bz1, jc_le0, jc_le1, jc_lt0, jc_lt1, jc_eq0, jc_eq1, Nat.not_lt_zero, Nat.zero_le, ne_eq, false_or, or_false, true_or, or_true, not_false_eq_true, not_true_eq_false, ↓reduceIte, Option.bind_some, Nat.add_sub_cancel, Nat.add_sub_cancel_left, reduceCtorEq, Option.some.injEq, Prod.mk.injEq, true_and, and_true, decide_true, decide_false, Bool.true_eq_false, Bool.false_eq_true, Bool.not_eq_true, Bool.not_eq_false, ha, hk, hbl, c1]; done))) | (with_reducible refine ifp ?_ ?_; (focus (simp (disch := omega) only [jlo, jl0, jl1, jl2, jl3, jl4, jl5, jl9, jl10, jl12, jl16, jl30, jl60, jl63, jl64, jl80, jl100, jl120, jl512, jlM, jlm, j_lt, j_le, j_eq, j_add, j_mul, j_div, j_mod, j_sub, j_m1, j_nelt, j_melt, j_nele, j_mele, j_neeq, j_meeq, j_nat, j_bz0, j_bz1, jc_le0, jc_le1, jc_lt0, jc_lt1, jc_eq0, jc_eq1, Nat.not_lt_zero, Nat.zero_le, ne_eq, false_or, or_false, true_or, or_true, not_false_eq_true, not_true_eq_false, ↓reduceIte, Option.bind_some, Nat.add_sub_cancel, Nat.add_sub_cancel_left, reduceCtorEq, Option.some.injEq, Prod.mk.injEq, true_and, and_true, decide_true, decide_false, Bool.true_eq_false, Bool.false_eq_true, Bool.not_eq_true, Bool.not_eq_false, ha, hk, hbl, c1]; done))) | (with_reducible apply bnd1; (focus ((try simp (disch := omega) only [jlo, jl0, jl1, jl2, jl3, jl4, jl5, jl9, jl10, jl12, jl16, jl30, jl60, jl63, jl64, jl80, jl100, jl120, jl512, jlM, jlm, j_lt, j_le, j_eq, j_add, j_mul, j_div, j_mod, j_sub, j_m1, j_nelt, j_melt, j_nele, j_mele, j_neeq, j_meeq, j_nat, j_bz0, j_bz1, jc_le0, jc_le1, jc_lt0, jc_lt1, jc_eq0, jc_eq1, Nat.not_lt_zero, Nat.zero_le, ne_eq, false_or, or_false, true_or, or_true, not_false_eq_true, not_true_eq_false, ↓reduceIte, Option.bind_some, Nat.add_sub_cancel, Nat.add_sub_cancel_left, reduceCtorEq, Option.some.injEq, Prod.mk.injEq, true_and, and_true, decide_true, decide_false, Bool.true_eq_false, Bool.false_eq_true, Bool.not_eq_true, Bool.not_eq_false, ha, hk, hbl, c1]); exact rfl)); with_reducible refine bnd rfl ?_)))
        simp only [jl1, j_add]
        exact h1
      · rw [show tg 1 (y :: ys) = true by simp only [tg, List.any_cons]; rw [decide_eq_true (by omega : 9 < y / 10), c1]; simp]
        have c3 : ¬ y ≤ 100 := by omega
        rw [if_pos rfl]
        (repeat (first | (with_reducible refine ifn ?_ ?_; (focus (simp (disch := omega) only [jlo, jl0, jl1, jl2, jl3, jl4, jl5, jl9, jl10, jl12, jl16, jl30, jl60, jl63, jl64, jl80, jl100, jl120, jl512, jlM, jlm, j_lt, j_le, j_eq, j_add, j_mul, j_div, j_mod, j_sub, j_m1, j_nelt, j_melt, j_nele, j_mele, j_neeq, j_meeq, j_nat, j_bz0, j_bz1, jc_le0, jc_le1, jc_lt0, jc_lt1, jc_eq0, jc_eq1, Nat.not_lt_zero, Nat.zero_le, ne_eq, false_or, or_false, true_or, or_true, not_false_eq_true, not_true_eq_false, ↓reduceIte, Option.bind_some, Nat.add_sub_cancel, Nat.add_sub_cancel_left, reduceCtorEq, Option.some.injEq, Prod.mk.injEq, true_and, and_true, decide_true, decide_false, Bool.true_eq_false, Bool.false_eq_true, Bool.not_eq_true, Bool.not_eq_false, ha, hk, hbl, c1]; done))) | (with_reducible refine ifp ?_ ?_; (focus (simp (disch := omega) only [jlo, jl0, jl1, jl2, jl3, jl4, jl5, jl9, jl10, jl12, jl16, jl30, jl60, jl63, jl64, jl80, jl100, jl120, jl512, jlM, jlm, j_lt, j_le, j_eq, j_add, j_mul, j_div, j_mod, j_sub, j_m1, j_nelt, j_melt, j_nele, j_mele, j_neeq, j_meeq, j_nat, j_bz0, j_bz1, jc_le0, jc_le1, jc_lt0, jc_lt1, jc_eq0, jc_eq1, Nat.not_lt_zero, Nat.zero_le, ne_eq, false_or, or_false, true_or, or_true, not_false_eq_true, not_true_eq_false, ↓reduceIte, Option.bind_some, Nat.add_sub_cancel, Nat.add_sub_cancel_left, reduceCtorEq, Option.some.injEq, Prod.mk.injEq, true_and, and_true, decide_true, decide_false, Bool.true_eq_false, Bool.false_eq_true, Bool.not_eq_true, Bool.not_eq_false, ha, hk, hbl, c1]; done))) | (with_reducible apply bnd1; (focus ((try simp (disch := omega) only [jlo, jl0, jl1, jl2, jl3, jl4, jl5, jl9, jl10, jl12, jl16, jl30, jl60, jl63, jl64, jl80, jl100, jl120, jl512, jlM, jlm, j_lt, j_le, j_eq, j_add, j_mul, j_div, j_mod, j_sub, j_m1, j_nelt, j_melt, j_nele, j_mele, j_neeq, j_meeq, j_nat, j_bz0, j_bz1, jc_le0, jc_le1, jc_lt0, jc_lt1, jc_eq0, jc_eq1, Nat.not_lt_zero, Nat.zero_le, ne_eq, false_or, or_false, true_or, or_true, not_false_eq_true, not_true_eq_false, ↓reduceIte, Option.bind_some, Nat.add_sub_cancel, Nat.add_sub_cancel_left, reduceCtorEq, Option.some.injEq, Prod.mk.injEq, true_and, and_true, decide_true, decide_false, Bool.true_eq_false, Bool.false_eq_true, Bool.not_eq_true, Bool.not_eq_false, ha, hk, hbl, c1]); exact rfl)); with_reducible refine bnd rfl ?_)))
        rfl
    · rw [show tg 1 (y :: ys) = tg 1 ys by simp only [tg, List.any_cons]; rw [beq_eq_false_iff_ne.mpr c1]; simp]
      (repeat (first | (with_reducible refine ifn ?_ ?_; (focus (simp (disch := omega) only [jlo, jl0, jl1, jl2, jl3, jl4, jl5, jl9, jl10, jl12, jl16, jl30, jl60, jl63, jl64, jl80, jl100, jl120, jl512, jlM, jlm, j_lt, j_le, j_eq, j_add, j_mul, j_div, j_mod, j_sub, j_m1, j_nelt, j_melt, j_nele, j_mele, j_neeq, j_meeq, j_nat, j_bz0, j_bz1, jc_le0, jc_le1, jc_lt0, jc_lt1, jc_eq0, jc_eq1, Nat.not_lt_zero, Nat.zero_le, ne_eq, false_or, or_false, true_or, or_true, not_false_eq_true, not_true_eq_false, ↓reduceIte, Option.bind_some, Nat.add_sub_cancel, Nat.add_sub_cancel_left, reduceCtorEq, Option.some.injEq, Prod.mk.injEq, true_and, and_true, decide_true, decide_false, Bool.true_eq_false, Bool.false_eq_true, Bool.not_eq_true, Bool.not_eq_false, ha, hk, hbl]; done))) | (with_reducible refine ifp ?_ ?_; (focus (simp (disch := omega) only [jlo, jl0, jl1, jl2, jl3, jl4, jl5, jl9, jl10, jl12, jl16, jl30, jl60, jl63, jl64, jl80, jl100, jl120, jl512, jlM, jlm, j_lt, j_le, j_eq, j_add, j_mul, j_div, j_mod, j_sub, j_m1, j_nelt, j_melt, j_nele, j_mele, j_neeq, j_meeq, j_nat, j_bz0, j_bz1, jc_le0, jc_le1, jc_lt0, jc_lt1, jc_eq0, jc_eq1, Nat.not_lt_zero, Nat.zero_le, ne_eq, false_or, or_false, true_or, or_true, not_false_eq_true, not_true_eq_false, ↓reduceIte, Option.bind_some, Nat.add_sub_cancel, Nat.add_sub_cancel_left, reduceCtorEq, Option.some.injEq, Prod.mk.injEq, true_and, and_true, decide_true, decide_false, Bool.true_eq_false, Bool.false_eq_true, Bool.not_eq_true, Bool.not_eq_false, ha, hk, hbl]; done))) | (with_reducible apply bnd1; (focus ((try simp (disch := omega) only [jlo, jl0, jl1, jl2, jl3, jl4, jl5, jl9, jl10, jl12, jl16, jl30, jl60, jl63, jl64, jl80, jl100, jl120, jl512, jlM, jlm, j_lt, j_le, j_eq, j_add, j_mul, j_div, j_mod, j_sub, j_m1, j_nelt, j_melt, j_nele, j_mele, j_neeq, j_meeq, j_nat, j_bz0, j_bz1, jc_le0, jc_le1, jc_lt0, jc_lt1, jc_eq0, jc_eq1, Nat.not_lt_zero, Nat.zero_le, ne_eq, false_or, or_false, true_or, or_true, not_false_eq_true, not_true_eq_false, ↓reduceIte, Option.bind_some, Nat.add_sub_cancel, Nat.add_sub_cancel_left, reduceCtorEq, Option.some.injEq, Prod.mk.injEq, true_and, and_true, decide_true, decide_false, Bool.true_eq_false, Bool.false_eq_true, Bool.not_eq_true, Bool.not_eq_false, ha, hk, hbl]); exact rfl)); with_reducible refine bnd rfl ?_)))
      simp only [jl1, j_add]
      exact h1
/-- what is passing becomes lasting -/
def kpN (N : cN) : cN := (N.1, N.2.1, N.2.2.1, N.2.2.2.1, N.2.2.2.2.1, N.2.2.2.2.2.1, N.2.2.2.2.2.2.1, N.2.2.2.2.2.2.2.2, N.2.2.2.2.2.2.2.2)
theorem kp_ni {N : cN} (h : NI N) : NI (kpN N) := by
  obtain ⟨h1, h2, h3, h4, h5, h6, h7, h8, h9⟩ := h
  exact ⟨h1, h3, h3, h4, Nat.le_trans h5 h6, Nat.le_refl _, h7, h8, h9⟩
theorem kp_gx (N : cN) : Gx N (dr (kpN N)) := fun p hp => ⟨hp, rfl, rfl, rfl, rfl, rfl⟩
theorem tt_gx {q : Nat} {N N' : cN} {T : cT} (hm : nmt N' = nmt N) (hx : Gx N N') (h : TT q N T) : TT q N' T := by
  refine ⟨by rw [hm]; exact h.1, fun p hp => ?_⟩
  rw [hm] at hp ⊢
  obtain ⟨⟨e1, e2, e3, e4, e5⟩, t, h1, h2, h3⟩ := h.2 p hp
  obtain ⟨-, a1, a2, a3, a4, a5⟩ := hx p (.inl hp)
  exact ⟨⟨e1.trans a1.symm, e2.trans a2.symm, e3.trans a3.symm, e4.trans a4.symm, e5.trans a5.symm⟩, t, rp_gx hx t h1, h2, h3⟩
theorem enc_lt (t : tm) : wft t → ∀ m, m ∈ enc t → m < 10000 := by
  induction t with
  | leaf x =>
    intro hw m hm
    rcases List.mem_cons.mp hm with rfl | hm
    · exact hw.1
    · cases hm
  | branch k l r hl hr =>
    intro hw m hm
    rcases List.mem_cons.mp hm with rfl | hm
    · have := hw.1
      omega
    · rcases List.mem_append.mp hm with hm | hm
      · exact hl hw.2.1 m hm
      · exact hr hw.2.2 m hm
theorem tg_app {k : Nat} {xs ys : List Nat} : tg k (xs ++ ys) = (tg k xs || tg k ys) := by simp only [tg, List.any_append]
theorem okt_tg {q : Nat} (t : tm) : ∀ {c : Nat}, okt 10 q c t → tg 1 (enc t) = false → okt 9 q c t := by
  induction t with
  | leaf m =>
    intro c h hg
    simp only [enc, tg, List.any_cons, List.any_nil, Bool.or_false, Bool.and_eq_false_iff, beq_eq_false_iff_ne, decide_eq_false_iff_not] at hg
    simp only [okt] at *
    omega
  | branch k l r hl hr =>
    intro c h hg
    simp only [enc] at hg
    rw [show k :: (enc l ++ enc r) = [k] ++ (enc l ++ enc r) from rfl, tg_app, tg_app, Bool.or_eq_false_iff, Bool.or_eq_false_iff] at hg
    exact ⟨h.1, hl h.2.1 hg.2.1, hr h.2.2 hg.2.2⟩
theorem b_define {fl d q : Nat} (hfl : 10000 ≤ fl) (hd : 100 ≤ d) {N : cN} {C : cC} {P : cP} {T : cT} {G : cG} {H : cH} {B : cB} {ct : Nat → tm} {bo : Nat → Option tm} (h : Iv q N C P T G H B ct bo) (E : cE) (F : cF) (Q : cQ) (k n : Nat) (U : cU) (O : cO) (J : cJ) (V : cV) (Y : cY) (Z : cZ) (p1 p2 : Int32) :
    ∃ x N' C' E' F' Q' k' n' y G' U' B' O' J' V' Y' Z' q' ct' bo', fJ_define fl d N C E F Q k n p1 p2 = some (x, N', C', E', F', Q', (k', n')) ∧ fm_define fl T G U B O J V Y Z p1 p2 = some (y, G', U', B', O', J', V', Y', Z') ∧ Iv q' N' C' P T G' H B' ct' bo' ∧ Rc x y U' ∧ Co N N' k n k' n' := by
  have hiv := h
  obtain ⟨hN, hle, hT, hC, hG, hty, hbo, hrs⟩ := h
  have hq : q ≤ 16 := hC.2.1
  have hen : nen (dr N) = nle N := rfl
  have hnc : ncap (dr N) = ncap N := rfl
  have hfull := c_full hC
  obtain ⟨gc, gb⟩ := G
  have hG : gc = jn q := hG
  subst hG
  by_cases hq16 : q = 16
  · subst hq16
    refine ⟨.inl (-1), N, C, (E.1, E.2.1, E.2.2.1, 0, 0), F, Q, k, n, -1, (jn 16, gb), jn 0, B, O, J, V, Y, Z, 16, ct, bo, ?_, ?_, hiv, ⟨rfl, rfl⟩, by unfold Co; omega⟩
    · unfold fJ_define
      exact bnd hfull (ifn (by decide) (bnd rfl rfl))
    · unfold fm_define
      exact ifn (by decide) rfl
  · have hfull : fC_isFull C = some false := by rw [hfull, decide_eq_false (by omega)]
    have hg16 : jn q ≠ (16 : Int32) := by
      rw [jl16, ne_eq, j_eq (by omega) (by omega)]
      exact hq16
    rcases b_begin hN hT E F k n 0 V p1 p1 p2 with ⟨c1, m1⟩ | ⟨a, a2, f, rfl, -, rfl, ha, -, hf, c1, m1⟩
    · refine ⟨.inr 0, N, C, E, F, Q, k + 1, n + 6, 0, (jn q, gb), jn 1, B, O, J, V, Y, Z, q, ct, bo, ?_, ?_, hiv, ⟨by omega, rfl⟩, by unfold Co; omega⟩
      · unfold fJ_define
        exact bnd hfull (ifp rfl (bnd c1 rfl))
      · unfold fm_define
        exact ifp hg16 (bnd m1 (ifn (by decide) rfl))
    · obtain ⟨t, ht, htr, hk, h60, hdp⟩ := tt_get hT ha
      have hct : ∀ c, c < q → sz (ct c) ≤ 60 ∧ dp (ct c) ≤ 12 ∧ okt 9 q 10 (ct c) := fun c hc => (hty c hc).2
      have hcq := c_ty hfl hf (C := C) (bo := bo) hct t (Γ := []) (N := dr N) (n := f) (k := k) (j := n) (p := a) (d := d) (fi := E.1) (se := E.2.1) (tt := F.1) (op := E.2.2.1) (x := 0) (dr_ni hN) hC hk h60 (by simp only [List.length_nil]; omega) ht trivial (Nat.le_refl f) (by omega) (by omega)
      obtain ⟨B1, J1, l1, r1, s1⟩ := b_load hfl hq hN htr hk h60 hdp (r := 63) (by omega) B J
      have hqt := q_toType hfl hq hf (G := (jn q, gb)) (ct := ct) (bo := bo) (t := t) (B := B1) (O := O) (J := J1) (Y := Y) (Z := Z) hk h60 hdp r1 (bod_sm hbo (fun r hr _ => s1 r (by omega))) (typ_sm hq hty (fun r hr => s1 r (by omega))) (Nat.le_refl f)
      rcases hres : ty ct bo t [] f with e | ⟨R, f'⟩
      · rw [hres] at hcq hqt
        obtain ⟨he, N', k', j', E', F', c2, st, -⟩ := hcq
        obtain ⟨-, B', O', J', Z', Y', u', m2, sm⟩ := hqt
        refine ⟨.inr (e - 1), N', C, E', F', Q, k' + 1, j' + 6, 0, (jn q, gb), jn e, B', O', J', (jn f, u', jn e), Y', Z', q, ct, bo, ?_, ?_, iv_step hiv st.1 st.2.1 (fun ρ hρ => sm_trans (s1 ρ (by omega)) (sm ρ hρ)), ⟨by omega, ?_⟩, ?_⟩
        · unfold fJ_define
          exact bnd hfull (ifp rfl (bnd c1 (bnd c2 rfl)))
        · unfold fm_define
          exact ifp hg16 (bnd m1 (ifp (by decide) (bnd l1 (bnd m2 (ifn (b_e1 he) (bnd rfl rfl))))))
        · show jn e = jn (e - 1 + 1)
          rw [show e - 1 + 1 = e by omega]
        · obtain ⟨-, -, s3, s4⟩ := st
          unfold Co
          omega
      · rw [hres] at hcq hqt
        obtain ⟨hf', hRk, hR60, hRd, N', k', j', fi', se', op', tt', p', c2, st, hRp, -, -⟩ := hcq
        obtain ⟨-, -, -, -, B', O', J', Z', Y', m2, rB, sm⟩ := hqt
        have hRw : wft R := wf9 hq hRk (by simp only [List.length_nil]; omega) hRd
        have hsm : ∀ ρ, (ρ = 2 ∨ 64 ≤ ρ) → Sm B B' ρ := fun ρ hρ => sm_trans (s1 ρ (by omega)) (sm ρ hρ)
        obtain ⟨qr, w1, sg⟩ := c_writeQ (P := Q) st.1 hRw hRp (by omega : dp R ≤ d) hR60
        have hlt := enc_lt R hRw
        have htq : fM_hasTooGreat_Q fl (qr, jn (sz R), Q.2.2) 1 = some (tg 1 (enc R)) := by
          have := c_tgQ (fl := fl) (k := 1) (by omega) hR60 (qx := Q.2.2) (enc R) (qr := qr) (i := 0) hlt (by rw [enc_len]; omega) sg (fl - sz R - 1)
          rw [enc_len, show fl - sz R - 1 + sz R + 1 = fl by omega] at this
          exact this
        obtain ⟨br', bl'⟩ := B'
        have hdl := fun w => q_def (fl := fl) (L := sz R) hR60 (T := T) (G := (jn q, gb)) (U := jn 0) (O := O') (J := J') (V := (jn f, jn (f - f'), jn 0)) (Y := Y') (Z := Z') (v1 := jn a) (v2 := jn f) (br := br') (bl := bl') rB.1 (enc R) (i := 0) hlt (by rw [enc_len]; omega) rB.2 w
        have hdl := hdl (fl - sz R - 1)
        rw [enc_len, show fl - sz R - 1 + sz R + 1 = fl by omega] at hdl
        by_cases hg : tg 1 (enc R) = true
        · rw [if_pos hg] at hdl
          rw [hg] at htq
          refine ⟨.inl (-1), N', C, (fi', se', op', jn f, jn (f - f')), (tt', jn ([] : List tm).length), (qr, jn (sz R), Q.2.2), k', j', -1, (jn q, gb), jn 0, (br', bl'), O', J', (jn f, jn (f - f'), jn 0), Y', Z', q, ct, bo, ?_, ?_, iv_step hiv st.1 st.2.1 hsm, ⟨rfl, rfl⟩, ?_⟩
          · unfold fJ_define
            exact bnd hfull (ifp rfl (bnd c1 (bnd c2 (bnd w1 (bnd htq (ifn (by decide) rfl))))))
          · unfold fm_define
            exact ifp hg16 (bnd m1 (ifp (by decide) (bnd l1 (bnd m2 (ifp rfl hdl)))))
          · obtain ⟨-, -, s3, s4⟩ := st
            unfold Co
            omega
        · rw [if_neg hg] at hdl
          have hg := Bool.eq_false_iff.mpr hg
          rw [hg] at htq
          have hRk9 : okt 9 q 10 R := okt_tg R hRk hg
          have hle' : nle N' = nle N := st.2.1.2.1
          have hend : nen (dr N') = nle N' := rfl
          have hncd : ncap (dr N') = ncap N' := rfl
          obtain ⟨N8, k8, j8, p8, c8, st8, hn8, r8⟩ := c_readn fl R (N := dr N') (d := d) (i := 0) (L := sz R) (k := k') (n := j') (qr := qr) (dr_ni st.1) hRw (by omega) (by omega) hR60 sg (by omega)
          have hlast : fJ_lasting fl d N' (qr, jn (sz R), Q.2.2) k' j' = some (jn p8, kpN N8, (qr, jn (sz R), jn (0 + sz R)), (k8, j8)) := by
            unfold fJ_lasting fM_read_Q
            exact bnd (c_drop N') (bnd (bnd c8 rfl) (bnd rfl rfl))
          have hx8 : Gx (dr N) (dr (kpN N8)) := gx_trans (gx_ex (dr_dr st.2.1)) (gx_trans (gx_ex st8.2.1) (kp_gx N8))
          have hmt8 : nmt (dr (kpN N8)) = nmt (dr N) := st8.2.1.1.trans st.2.1.1
          have hadd := c_cadd hC (by omega) (jn p8) (jn a)
          obtain ⟨B3, e3, r3, s3⟩ := q_copy hfl (to := 64 + q) (fr := 63) (by omega) (by omega) (by omega) hR60 rB
          obtain ⟨B4, J4, l4, r4, s4⟩ := b_load hfl hq hN htr hk h60 hdp (r := 80 + q) (by omega) B3 J'
          have hk10 : okt 10 q 10 t := okt_mono (by omega) (Nat.le_refl q) t (Nat.le_refl 10) hk
          have hiv9 := iv_new (N9 := kpN N8) (C := C) (P := P) (T := T) (gc := jn q) (gb := gb) (H := H) (B := B) (B' := B4) (R := R) (ob := some t) (bv := jn a) (x := jn 1) (tp := p8) (by omega : q < 16) (kp_ni st8.1) (by show nen N8 ≤ _; omega) (tt_gx hmt8 hx8 hT) (ci_gx hx8 hC) hty hbo hrs (rp_gx (kp_gx N8) R r8) hRk9 hR60 hRd (row_sm hR60 (s4 _ (by omega)) r3) ⟨⟨a, rfl, rp_gx hx8 t ht⟩, r4, h60, hdp, hk10, rfl⟩ (fun ρ hρ => sm_trans (hsm ρ (by omega)) (sm_trans (s3 ρ (by omega)) (s4 ρ (by omega))))
          rw [← j_add] at e3 l4
          refine ⟨.inl (jn q), kpN N8, _, (fi', se', op', jn f, jn (f - f')), (tt', jn ([] : List tm).length), (qr, jn (sz R), jn (0 + sz R)), k8, j8, jn q, (jn (q + 1), upd gb q (jn 1)), jn 0, B4, O', J4, (jn f, jn (f - f'), jn 0), Y', Z', q + 1, _, _, ?_, ?_, hiv9, ⟨rfl, rfl⟩, ?_⟩
          · unfold fJ_define
            exact bnd hfull (ifp rfl (bnd c1 (bnd c2 (bnd w1 (bnd htq (ifp rfl (bnd hlast (bnd hadd rfl))))))))
          · unfold fm_define
            refine ifp hg16 (bnd m1 (ifp (by decide) (bnd l1 (bnd m2 (ifp rfl (hdl.trans ?_))))))
            rw [lp_fm_define_59]
            refine ifn (by decide) (ifp ?_ (bnd e3 (bnd l4 (ifn ?_ ?_))))
            · rw [show bl' (63 : Int32).toNatClampNeg = jn (sz R) from rB.1, j_le (by omega) (by omega)]
              exact Nat.le_refl _
            · rw [jl0, j_lt (by omega) (by omega), j_nat (by omega)]
              omega
            · simp (disch := omega) only [jlo, jl0, jl1, jl2, jl3, jl4, jl5, jl9, jl10, jl12, jl16, jl30, jl60, jl63, jl64, jl80, jl100, jl120, jl512, jlM, jlm, j_lt, j_le, j_eq, j_add, j_mul, j_div, j_mod, j_sub, j_m1, j_nelt, j_melt, j_nele, j_mele, j_neeq, j_meeq, j_nat, j_bz0, j_bz1, jc_le0, jc_le1, jc_lt0, jc_lt1, jc_eq0, jc_eq1, Nat.not_lt_zero, Nat.zero_le, ne_eq, false_or, or_false, true_or, or_true, not_false_eq_true, not_true_eq_false, ↓reduceIte, Option.bind_some, Nat.add_sub_cancel, Nat.add_sub_cancel_left, reduceCtorEq, Option.some.injEq, Prod.mk.injEq, true_and, and_true, decide_true, decide_false, Bool.true_eq_false, Bool.false_eq_true, Bool.not_eq_true, Bool.not_eq_false]
          · obtain ⟨-, -, x3, x4⟩ := st
            obtain ⟨-, -, y3, y4⟩ := st8
            unfold Co
            have : ncap (kpN N8) = ncap N8 := rfl
            omega
