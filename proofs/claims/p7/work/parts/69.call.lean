/-! ===== between calls: what both sides hold ===== -/
/-- the result, on both sides -/
def Rs (q : Nat) (P : cP) (H : cH) (B : cB) : Prop := (H = jn 0 ∧ P.2.1 = jn 0) ∨ (H = jn 1 ∧ ∃ t, okt 10 q 10 t ∧ sz t ≤ 60 ∧ dp t ≤ 12 ∧ P.2.1 = jn (sz t) ∧ Seg P.1 0 (enc t) ∧ Row B 2 t)
def Iv (q : Nat) (N : cN) (C : cC) (P : cP) (T : cT) (G : cG) (H : cH) (B : cB) (ct : Nat → tm) (bo : Nat → Option tm) : Prop :=
  NI N ∧ nle N ≤ 120 + 60 * q ∧ TT q (dr N) T ∧ CI q (dr N) C ct bo ∧ G.1 = jn q ∧ Typ q B ct ∧ Bod q G B bo ∧ Rs q P H B
theorem rs_sm {q : Nat} {P : cP} {H : cH} {B B' : cB} (h : Rs q P H B) (hs : Sm B B' 2) : Rs q P H B' := by
  rcases h with h | ⟨h1, t, h2, h3, h4, h5, h6, h7⟩
  · exact .inl h
  · exact .inr ⟨h1, t, h2, h3, h4, h5, h6, row_sm h3 hs h7⟩
theorem iv_step {q : Nat} {N N' : cN} {C : cC} {P : cP} {T : cT} {G : cG} {H : cH} {B B' : cB} {ct : Nat → tm} {bo : Nat → Option tm} (h : Iv q N C P T G H B ct bo) (hN' : NI N') (hx : Ex (dr N) N') (hs : ∀ ρ, (ρ = 2 ∨ 64 ≤ ρ) → Sm B B' ρ) : Iv q N' C P T G H B' ct bo := by
  obtain ⟨h1, h2, h3, h4, h5, h6, h7, h8⟩ := h
  have hx2 := dr_dr hx
  refine ⟨hN', ?_, tt_ex hx2 h3, ci_ex hx2 h4, h5, typ_sm h4.2.1 h6 (fun r hr => hs r (.inr hr)), bod_sm h7 (fun r hr _ => hs r (.inr (by omega))), rs_sm h8 (hs 2 (.inl rfl))⟩
  have : nle N' = nle N := hx.2.1
  omega
theorem iv_res {q : Nat} {N : cN} {C : cC} {P P' : cP} {T : cT} {G : cG} {H : cH} {B B' : cB} {ct : Nat → tm} {bo : Nat → Option tm} (h : Iv q N C P T G H B ct bo) {t : tm} (hk : okt 10 q 10 t) (h60 : sz t ≤ 60) (hd : dp t ≤ 12) (hl : P'.2.1 = jn (sz t)) (hp : Seg P'.1 0 (enc t)) (hr : Row B' 2 t) (hs : ∀ ρ, 64 ≤ ρ → Sm B B' ρ) : Iv q N C P' T G (jn 1) B' ct bo := by
  obtain ⟨h1, h2, h3, h4, h5, h6, h7, h8⟩ := h
  exact ⟨h1, h2, h3, h4, h5, typ_sm h4.2.1 h6 hs, bod_sm h7 (fun r hr _ => hs r (by omega)), .inr ⟨rfl, t, hk, h60, hd, hl, hp, hr⟩⟩
/-- is it a term: both say the same -/
theorem b_is {q : Nat} {N : cN} {T : cT} (hN : NI N) (hT : TT q (dr N) T) (p : Int32) : (fN_isTerm N p = some true ∧ fm_isTerm T p = some true ∧ ∃ n, n < nmt N ∧ p = jn n) ∨ (fN_isTerm N p = some false ∧ fm_isTerm T p = some false ∧ ∀ n, n < nmt N → p ≠ jn n) := by
  have h4 : nmt N ≤ 120 := hN.2.2.2.1
  rcases c_isTerm hN p with ⟨h1, n, hn, rfl⟩ | ⟨h1, h2⟩
  · rcases q_isTerm (m := nmt N) hT.1 h4 (jn n) with ⟨g1, -⟩ | ⟨g1, g2⟩
    · exact .inl ⟨h1, g1, n, hn, rfl⟩
    · exact absurd rfl (g2 n hn)
  · rcases q_isTerm (m := nmt N) hT.1 h4 p with ⟨g1, n, hn, e⟩ | ⟨g1, g2⟩
    · exact absurd e (h2 n hn)
    · exact .inr ⟨h1, g1, h2⟩
/-- how a call with fuel begins -/
theorem b_begin {q : Nat} {N : cN} {T : cT} (hN : NI N) (hT : TT q (dr N) T) (E : cE) (F : cF) (k n : Nat) (U : cU) (V : cV) (p1 p2 p3 : Int32) :
    (fJ_begin N E F k n p1 p2 p3 = some (.inr 0, N, E, F, (k + 1, n + 6)) ∧ fm_starts T U V p1 p2 p3 = some (false, jn 1, V)) ∨
    (∃ a b f, p1 = jn a ∧ p2 = jn b ∧ p3 = jn f ∧ a < nmt N ∧ b < nmt N ∧ f ≤ 30 ∧ fJ_begin N E F k n p1 p2 p3 = some (.inl (), dr N, (E.1, E.2.1, E.2.2.1, jn f, jn (f - f)), (F.1, jn ([] : List tm).length), (k, n)) ∧ fm_starts T U V p1 p2 p3 = some (true, jn 0, (jn f, jn (f - f), jn 0))) := by
  rcases b_is hN hT p1 with ⟨c1, m1, a, ha, rfl⟩ | ⟨c1, m1, -⟩
  · rcases b_is hN hT p2 with ⟨c2, m2, b, hb, rfl⟩ | ⟨c2, m2, -⟩
    · rcases j_any p3 with h3 | ⟨f, hf, rfl⟩
      · refine .inl ⟨?_, ?_⟩
        · unfold fJ_begin
          exact bnd c1 (ifn (by decide) (bnd c2 (ifn (by decide) (ifp h3 rfl))))
        · unfold fm_starts
          exact bnd m1 (ifn (by decide) (bnd m2 (ifn (by decide) (ifp h3 rfl))))
      · have h0 : ¬ jn f < jn 0 := by
          rw [j_lt hf (by omega)]
          omega
        by_cases h30 : f ≤ 30
        · have h3 : jn f ≤ jn 30 := by
            rw [j_le hf (by omega)]
            exact h30
          refine .inr ⟨a, b, f, rfl, rfl, rfl, ha, hb, h30, ?_, ?_⟩
          · unfold fJ_begin
            rw [Nat.sub_self]
            exact bnd c1 (ifn (by decide) (bnd c2 (ifn (by decide) (ifn h0 (ifp h3 (bnd rfl (bnd rfl (bnd rfl rfl))))))))
          · unfold fm_starts
            rw [Nat.sub_self]
            exact bnd m1 (ifn (by decide) (bnd m2 (ifn (by decide) (ifn h0 (ifp h3 rfl)))))
        · have h3 : ¬ jn f ≤ jn 30 := by
            rw [j_le hf (by omega)]
            exact h30
          refine .inl ⟨?_, ?_⟩
          · unfold fJ_begin
            exact bnd c1 (ifn (by decide) (bnd c2 (ifn (by decide) (ifn h0 (ifn h3 rfl)))))
          · unfold fm_starts
            exact bnd m1 (ifn (by decide) (bnd m2 (ifn (by decide) (ifn h0 (ifn h3 rfl)))))
    · refine .inl ⟨?_, ?_⟩
      · unfold fJ_begin
        exact bnd c1 (ifn (by decide) (bnd c2 (ifp rfl rfl)))
      · unfold fm_starts
        exact bnd m1 (ifn (by decide) (bnd m2 (ifp rfl rfl)))
  · refine .inl ⟨?_, ?_⟩
    · unfold fJ_begin
      exact bnd c1 (ifp rfl rfl)
    · unfold fm_starts
      exact bnd m1 (ifp rfl rfl)
/-- what a term is, on both sides -/
theorem tt_get {q : Nat} {N : cN} {T : cT} (hT : TT q (dr N) T) {a : Nat} (ha : a < nmt N) : ∃ t, Rp (dr N) a t ∧ Tr (nmt N) T.2.1 T.2.2.1 T.2.2.2.1 a t ∧ okt 9 q 10 t ∧ sz t ≤ 60 ∧ dp t ≤ 12 := by
  obtain ⟨-, t, h1, h2, h3, h4, h5⟩ := hT.2 a ha
  exact ⟨t, h1, h2, h3, h4, h5⟩
theorem b_load {fl : Nat} (hfl : 10000 ≤ fl) {q : Nat} (hq : q ≤ 16) {N : cN} {T : cT} (hN : NI N) {a r : Nat} {t : tm} (htr : Tr (nmt N) T.2.1 T.2.2.1 T.2.2.2.1 a t) (hk : okt 9 q 10 t) (h60 : sz t ≤ 60) (hd : dp t ≤ 12) (hr : r < 96) (B : cB) (J : cJ) :
    ∃ B' J', fm_load fl T B J (jn r) (jn a) = some (B', J') ∧ Row B' r t ∧ ∀ r', r' ≠ r → Sm B B' r' := by
  obtain ⟨te, tk, ta, tb, tn, td⟩ := T
  exact q_load hfl hN.2.2.2.1 (okt_wft (by omega) (by omega) t hk (by omega)) htr hr h60
/-- the costs of a call -/
def Co (N N' : cN) (k n k' n' : Nat) : Prop := k' + ncap N ≤ k + ncap N' + 1 ∧ n' + 10 * ncap N ≤ n + 10 * ncap N' + 6
/-- the answer of a call that may throw all three -/
def Rc {α : Type} (x : α ⊕ Nat) (y : α) (U : cU) : Prop := match x with
  | .inl v => y = v ∧ U = jn 0
  | .inr e => e ≤ 2 ∧ U = jn (e + 1)
/-- the answer of a call that may throw two -/
def Rd {α : Type} (x : α ⊕ Nat) (y : α) (U : cU) : Prop := match x with
  | .inl v => y = v ∧ U = jn 0
  | .inr e => (e = 0 ∧ U = jn 1) ∨ (e = 2 ∧ U = jn 2)
theorem wf9 {q c : Nat} {t : tm} (hq : q ≤ 16) (hk : okt 10 q c t) (hc : c ≤ 30) (hd : dp t ≤ 12) : wft t := okt_wft (by omega) (by omega) t hk (by omega)
theorem b_setRes {fl : Nat} (hfl : 10000 ≤ fl) {r : Nat} {t : tm} {B : cB} (H : cH) (hr : r < 96) (hr2 : r ≠ 2) (h60 : sz t ≤ 60) (hrow : Row B r t) :
    ∃ B', fm_setResult fl H B (jn r) = some (jn (sz t), jn 1, B') ∧ Row B' 2 t ∧ ∀ ρ, ρ ≠ 2 → Sm B B' ρ := by
  obtain ⟨B1, e1, r1, s1⟩ := q_copy hfl (to := 2) (fr := r) (by omega) hr (Ne.symm hr2) h60 hrow
  refine ⟨B1, ?_, r1, s1⟩
  have hl : B1.2 r = jn (sz t) := (s1 r hr2).1.trans hrow.1
  obtain ⟨br, bl⟩ := B1
  have hl : bl r = jn (sz t) := hl
  unfold fm_setResult
  (repeat (first | (with_reducible refine ifn ?_ ?_; (focus (simp (disch := omega) only [jlo, jl0, jl1, jl2, jl3, jl4, jl5, jl9, jl10, jl12, jl16, jl30, jl60, jl63, jl64, jl80, jl100, jl120, jl512, jlM, jlm, j_lt, j_le, j_eq, j_add, j_mul, j_div, j_mod, j_sub, j_m1, j_nelt, j_melt, j_nele, j_mele, j_neeq, j_meeq, j_nat, j_bz0, j_bz1, jc_le0, jc_le1, jc_lt0, jc_lt1, jc_eq0, jc_eq1, Nat.not_lt_zero, Nat.zero_le, ne_eq, false_or, or_false, true_or, or_true, not_false_eq_true, not_true_eq_false, ↓reduceIte, Option.bind_some, Nat.add_sub_cancel, Nat.add_sub_cancel_left, reduceCtorEq, Option.some.injEq, Prod.mk.injEq, true_and, and_true, decide_true, decide_false, Bool.true_eq_false, Bool.false_eq_true, Bool.not_eq_true, Bool.not_eq_false, e1, hl]; done))) | (with_reducible refine ifp ?_ ?_; (focus (simp (disch := omega) only [jlo, jl0, jl1, jl2, jl3, jl4, jl5, jl9, jl10, jl12, jl16, jl30, jl60, jl63, jl64, jl80, jl100, jl120, jl512, jlM, jlm, j_lt, j_le, j_eq, j_add, j_mul, j_div, j_mod, j_sub, j_m1, j_nelt, j_melt, j_nele, j_mele, j_neeq, j_meeq, j_nat, j_bz0, j_bz1, jc_le0, jc_le1, jc_lt0, jc_lt1, jc_eq0, jc_eq1, Nat.not_lt_zero, Nat.zero_le, ne_eq, false_or, or_false, true_or, or_true, not_false_eq_true, not_true_eq_false, ↓reduceIte, Option.bind_some, Nat.add_sub_cancel, Nat.add_sub_cancel_left, reduceCtorEq, Option.some.injEq, Prod.mk.injEq, true_and, and_true, decide_true, decide_false, Bool.true_eq_false, Bool.false_eq_true, Bool.not_eq_true, Bool.not_eq_false, e1, hl]; done))) | (with_reducible apply bnd1; (focus ((try simp (disch := omega) only [jlo, jl0, jl1, jl2, jl3, jl4, jl5, jl9, jl10, jl12, jl16, jl30, jl60, jl63, jl64, jl80, jl100, jl120, jl512, jlM, jlm, j_lt, j_le, j_eq, j_add, j_mul, j_div, j_mod, j_sub, j_m1, j_nelt, j_melt, j_nele, j_mele, j_neeq, j_meeq, j_nat, j_bz0, j_bz1, jc_le0, jc_le1, jc_lt0, jc_lt1, jc_eq0, jc_eq1, Nat.not_lt_zero, Nat.zero_le, ne_eq, false_or, or_false, true_or, or_true, not_false_eq_true, not_true_eq_false, ↓reduceIte, Option.bind_some, Nat.add_sub_cancel, Nat.add_sub_cancel_left, reduceCtorEq, Option.some.injEq, Prod.mk.injEq, true_and, and_true, decide_true, decide_false, Bool.true_eq_false, Bool.false_eq_true, Bool.not_eq_true, Bool.not_eq_false, e1, hl]); exact rfl)); with_reducible refine bnd rfl ?_)))
  simp (disch := omega) only [jlo, jl0, jl1, jl2, jl3, jl4, jl5, jl9, jl10, jl12, jl16, jl30, jl60, jl63, jl64, jl80, jl100, jl120, jl512, jlM, jlm, j_lt, j_le, j_eq, j_add, j_mul, j_div, j_mod, j_sub, j_m1, j_nelt, j_melt, j_nele, j_mele, j_neeq, j_meeq, j_nat, j_bz0, j_bz1, jc_le0, jc_le1, jc_lt0, jc_lt1, jc_eq0, jc_eq1, Nat.not_lt_zero, Nat.zero_le, ne_eq, false_or, or_false, true_or, or_true, not_false_eq_true, not_true_eq_false, ↓reduceIte, Option.bind_some, Nat.add_sub_cancel, Nat.add_sub_cancel_left, reduceCtorEq, Option.some.injEq, Prod.mk.injEq, true_and, and_true, decide_true, decide_false, Bool.true_eq_false, Bool.false_eq_true, Bool.not_eq_true, Bool.not_eq_false, hl]
