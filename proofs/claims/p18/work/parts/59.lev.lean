theorem c_same_t {fl q d fu n c : Nat} (hfl : 10000 ≤ fl) (hd40 : 40 ≤ d) (hfu : fu ≤ 30) (hn : n ≤ fu) (hc : 10 ≤ c) (hc2 : c ≤ 28) {C : cC} {ct : Nat → tm} {bo : Nat → Option tm} {N : cN} {fi se : Nat → Int32} {op : Int32} {s t : tm} {a b : Nat} (k m : Nat) (hN : NI N) (hC : CI q N C ct bo)
    (hs : sz s ≤ 60 ∧ dp s ≤ 12 ∧ okt 10 q c s) (ht : sz t ≤ 60 ∧ dp t ≤ 12 ∧ okt 10 q c t) (ra : Rp N a s) (rb : Rp N b t) (he : nen N + 80 * n ≤ 20000) :
    (∃ bb n', sw bo 2000 n [(s, t)] = some (some (bb, n')) ∧ ∃ N' k' m' fi' se' op', fE_areSame fl d N C (fi, se, op, jn fu, jn (fu - n)) k m (jn a) (jn b) = some (.inl bb, N', (fi', se', op', jn fu, jn (fu - n')), (k', m')) ∧ Nst N k m N' k' m' ∧ nen N' + 80 * n' ≤ nen N + 80 * n ∧ n' ≤ n) ∨
    (sw bo 2000 n [(s, t)] = some none ∧ ∃ N' k' m' E', fE_areSame fl d N C (fi, se, op, jn fu, jn (fu - n)) k m (jn a) (jn b) = some (.inr 2, N', E', (k' + 1, m' + 6)) ∧ Nst N k m N' k' m' ∧ nen N' ≤ nen N + 80 * n + 4000) := by
  have ho : oks q n [(s, t)] := by
    intro p hp
    rcases List.mem_cons.mp hp with rfl | hp
    · exact ⟨c, hc, by simp only; omega, hs, ht⟩
    · cases hp
  have hh : hts n [(s, t)] := ⟨by simp only [List.length_nil]; omega, trivial⟩
  have hΦ : tot [(s, t)] + 60 * n ≤ 1920 := by
    simp only [tot]
    omega
  obtain ⟨res, hres⟩ := sw_gas hC.2.1 (ci_okt hC) 2000 (n := n) (l := [(s, t)]) (by omega) ho hh
  have hps : Ps N (upd fi 0 (jn a)) (upd se 0 (jn b)) [(s, t)] := ⟨⟨a, b, if_pos rfl, if_pos rfl, ra, rb⟩, trivial⟩
  have hl := c_same_l hfl hd40 hfu (v1 := jn a) (v2 := jn b) 2000 (k := k) (m := m) (i := 0) hN hC ho hh hn (by omega) he hps hres
  have e1 : fl - 2000 + 2000 = fl := by omega
  have ho1 := c_open (fi := fi) (se := se) (fu := jn fu) (ma := jn (fu - n)) (p1 := jn a) (p2 := jn b) (by omega : 0 < 512) k m
  have e0 : fE_areSame fl d N C (fi, se, op, jn fu, jn (fu - n)) k m (jn a) (jn b) = lp_fE_areSame_13 fl d fl N C (upd fi 0 (jn a), upd se 0 (jn b), jn 1, jn fu, jn (fu - n)) k m (jn a) (jn b) (jn 0) := by
    unfold fE_areSame
    (repeat (first | (with_reducible refine ifn ?_ ?_; (focus (simp (disch := omega) only [jlo, jl0, jl1, jl2, jl3, jl4, jl5, jl9, jl10, jl12, jl16, jl30, jl60, jl63, jl64, jl80, jl100, jl120, jl512, jlM, jlm, j_lt, j_le, j_eq, j_add, j_mul, j_div, j_mod, j_sub, j_m1, j_nelt, j_melt, j_nele, j_mele, j_neeq, j_meeq, j_nat, j_bz0, j_bz1, jc_le0, jc_le1, jc_lt0, jc_lt1, jc_eq0, jc_eq1, Nat.not_lt_zero, Nat.zero_le, ne_eq, false_or, or_false, true_or, or_true, not_false_eq_true, not_true_eq_false, ↓reduceIte, Option.bind_some, Nat.add_sub_cancel, Nat.add_sub_cancel_left, reduceCtorEq, Option.some.injEq, Prod.mk.injEq, true_and, and_true, decide_true, decide_false, Bool.true_eq_false, Bool.false_eq_true, Bool.not_eq_true, Bool.not_eq_false, ho1]; done))) | (with_reducible refine ifp ?_ ?_; (focus (simp (disch := omega) only [jlo, jl0, jl1, jl2, jl3, jl4, jl5, jl9, jl10, jl12, jl16, jl30, jl60, jl63, jl64, jl80, jl100, jl120, jl512, jlM, jlm, j_lt, j_le, j_eq, j_add, j_mul, j_div, j_mod, j_sub, j_m1, j_nelt, j_melt, j_nele, j_mele, j_neeq, j_meeq, j_nat, j_bz0, j_bz1, jc_le0, jc_le1, jc_lt0, jc_lt1, jc_eq0, jc_eq1, Nat.not_lt_zero, Nat.zero_le, ne_eq, false_or, or_false, true_or, or_true, not_false_eq_true, not_true_eq_false, ↓reduceIte, Option.bind_some, Nat.add_sub_cancel, Nat.add_sub_cancel_left, reduceCtorEq, Option.some.injEq, Prod.mk.injEq, true_and, and_true, decide_true, decide_false, Bool.true_eq_false, Bool.false_eq_true, Bool.not_eq_true, Bool.not_eq_false, ho1]; done))) | (with_reducible apply bnd1; (focus ((try simp (disch := omega) only [jlo, jl0, jl1, jl2, jl3, jl4, jl5, jl9, jl10, jl12, jl16, jl30, jl60, jl63, jl64, jl80, jl100, jl120, jl512, jlM, jlm, j_lt, j_le, j_eq, j_add, j_mul, j_div, j_mod, j_sub, j_m1, j_nelt, j_melt, j_nele, j_mele, j_neeq, j_meeq, j_nat, j_bz0, j_bz1, jc_le0, jc_le1, jc_lt0, jc_lt1, jc_eq0, jc_eq1, Nat.not_lt_zero, Nat.zero_le, ne_eq, false_or, or_false, true_or, or_true, not_false_eq_true, not_true_eq_false, ↓reduceIte, Option.bind_some, Nat.add_sub_cancel, Nat.add_sub_cancel_left, reduceCtorEq, Option.some.injEq, Prod.mk.injEq, true_and, and_true, decide_true, decide_false, Bool.true_eq_false, Bool.false_eq_true, Bool.not_eq_true, Bool.not_eq_false, ho1]); exact rfl)); with_reducible refine bnd rfl ?_)))
    rfl
  rcases res with _ | ⟨bb, n'⟩
  · obtain ⟨N', k', m', E', h1, h2⟩ := hl
    have h1 := h1 (fl - 2000)
    rw [e1] at h1
    exact .inr ⟨hres, N', k', m', E', e0.trans h1, h2⟩
  · obtain ⟨N', k', m', fi', se', op', h1, h2⟩ := hl
    have h1 := h1 (fl - 2000)
    rw [e1] at h1
    exact .inl ⟨bb, n', hres, N', k', m', fi', se', op', e0.trans h1, h2⟩
theorem c_level {fl q d fu g : Nat} (hfl : 10000 ≤ fl) (hd40 : 40 ≤ d) (hfu : fu ≤ 30) (hg : g ≤ fu) {N : cN} {C : cC} {ct : Nat → tm} {bo : Nat → Option tm} {c : Nat} (hc10 : 10 ≤ c) (hc : c < 900) {fi se : Nat → Int32} {op : Int32} {p : Nat} {t : tm} (k n : Nat) (hN : NI N) (hC : CI q N C ct bo) (hk : okt 10 q c t) (h : Rp N p t) (h60 : sz t ≤ 60) (hd : dp t ≤ 12) (he : nen N + 80 * g ≤ 25000) :
    match lev bo g t with
      | .inr (l, g') => ∃ N' k' n', fF_levelOf fl d N C (fi, se, op, jn fu, jn (fu - g)) k n (jn p) = some (.inl (jn l), N', (fi, se, op, jn fu, jn (fu - g')), (k', n')) ∧ Nst N k n N' k' n' ∧ nen N' + 80 * g' ≤ nen N + 80 * g ∧ l ≤ 10 ∧ g' ≤ g
      | .inl e => (e = 2 ∨ e = 3) ∧ ∃ N' k' n' E', fF_levelOf fl d N C (fi, se, op, jn fu, jn (fu - g)) k n (jn p) = some (.inr (e - 1), N', E', (k' + 1, n' + 6)) ∧ Nst N k n N' k' n' ∧ nen N' ≤ nen N + 80 * g + 4000 := by
  have hl := c_head hfl hd40 hfu hg hc10 hc (fi := fi) (se := se) (op := op) k n hN hC hk h h60 hd he
  have hq := hC.2.1
  unfold lev
  rcases h1 : hf bo g t with _ | ⟨t', g'⟩
  · rw [h1] at hl
    obtain ⟨N', k', n', ma', e1, s1, c1⟩ := hl
    refine ⟨.inr rfl, N', k', n', (fi, se, op, jn fu, ma'), ?_, s1, c1⟩
    unfold fF_levelOf
    (repeat (first | (with_reducible refine ifn ?_ ?_; (focus (simp (disch := omega) only [jlo, jl0, jl1, jl2, jl3, jl4, jl5, jl9, jl10, jl12, jl16, jl30, jl60, jl63, jl64, jl80, jl100, jl120, jl512, jlM, jlm, j_lt, j_le, j_eq, j_add, j_mul, j_div, j_mod, j_sub, j_m1, j_nelt, j_melt, j_nele, j_mele, j_neeq, j_meeq, j_nat, j_bz0, j_bz1, jc_le0, jc_le1, jc_lt0, jc_lt1, jc_eq0, jc_eq1, Nat.not_lt_zero, Nat.zero_le, ne_eq, false_or, or_false, true_or, or_true, not_false_eq_true, not_true_eq_false, ↓reduceIte, Option.bind_some, Nat.add_sub_cancel, Nat.add_sub_cancel_left, reduceCtorEq, Option.some.injEq, Prod.mk.injEq, true_and, and_true, decide_true, decide_false, Bool.true_eq_false, Bool.false_eq_true, Bool.not_eq_true, Bool.not_eq_false, e1]; done))) | (with_reducible refine ifp ?_ ?_; (focus (simp (disch := omega) only [jlo, jl0, jl1, jl2, jl3, jl4, jl5, jl9, jl10, jl12, jl16, jl30, jl60, jl63, jl64, jl80, jl100, jl120, jl512, jlM, jlm, j_lt, j_le, j_eq, j_add, j_mul, j_div, j_mod, j_sub, j_m1, j_nelt, j_melt, j_nele, j_mele, j_neeq, j_meeq, j_nat, j_bz0, j_bz1, jc_le0, jc_le1, jc_lt0, jc_lt1, jc_eq0, jc_eq1, Nat.not_lt_zero, Nat.zero_le, ne_eq, false_or, or_false, true_or, or_true, not_false_eq_true, not_true_eq_false, ↓reduceIte, Option.bind_some, Nat.add_sub_cancel, Nat.add_sub_cancel_left, reduceCtorEq, Option.some.injEq, Prod.mk.injEq, true_and, and_true, decide_true, decide_false, Bool.true_eq_false, Bool.false_eq_true, Bool.not_eq_true, Bool.not_eq_false, e1]; done))) | (with_reducible apply bnd1; (focus ((try simp (disch := omega) only [jlo, jl0, jl1, jl2, jl3, jl4, jl5, jl9, jl10, jl12, jl16, jl30, jl60, jl63, jl64, jl80, jl100, jl120, jl512, jlM, jlm, j_lt, j_le, j_eq, j_add, j_mul, j_div, j_mod, j_sub, j_m1, j_nelt, j_melt, j_nele, j_mele, j_neeq, j_meeq, j_nat, j_bz0, j_bz1, jc_le0, jc_le1, jc_lt0, jc_lt1, jc_eq0, jc_eq1, Nat.not_lt_zero, Nat.zero_le, ne_eq, false_or, or_false, true_or, or_true, not_false_eq_true, not_true_eq_false, ↓reduceIte, Option.bind_some, Nat.add_sub_cancel, Nat.add_sub_cancel_left, reduceCtorEq, Option.some.injEq, Prod.mk.injEq, true_and, and_true, decide_true, decide_false, Bool.true_eq_false, Bool.false_eq_true, Bool.not_eq_true, Bool.not_eq_false, e1]); exact rfl)); with_reducible refine bnd rfl ?_)))
    rfl
  · rw [h1] at hl
    obtain ⟨N', k', n', p', e1, s1, r1, c1⟩ := hl
    obtain ⟨k1, k2, k3, -⟩ := okt_hf hc10 (ci_okt hC) g hk h1
    have hdp : dp t' ≤ 12 := by
      rcases k3 with ⟨rfl, -⟩ | k3
      · exact hd
      · exact k3.2.1
    have hw := okt_wft (by omega) (by omega) t' k1 (by omega)
    have hkd := c_kind' s1.1 r1 hw
    have hmk := mk_lt hw
    simp only
    by_cases hm : mk t' % 10 = 1
    · rw [if_pos hm]
      refine ⟨N', k', n', ?_, s1, c1, okt_mk1 k1 hm, k2⟩
      have hlf : fN_leftOf N' (jn p') = some (jn (mk t' / 10)) := by
        obtain ⟨u, v, g1, g2, g3⟩ := c_left' s1.1 r1
        cases t' with
        | leaf m => rw [g1, g3.1]; rfl
        | branch kk a b =>
          have := hw.1
          simp only [mk] at hm
          omega
      unfold fF_levelOf
      (repeat (first | (with_reducible refine ifn ?_ ?_; (focus (simp (disch := omega) only [jlo, jl0, jl1, jl2, jl3, jl4, jl5, jl9, jl10, jl12, jl16, jl30, jl60, jl63, jl64, jl80, jl100, jl120, jl512, jlM, jlm, j_lt, j_le, j_eq, j_add, j_mul, j_div, j_mod, j_sub, j_m1, j_nelt, j_melt, j_nele, j_mele, j_neeq, j_meeq, j_nat, j_bz0, j_bz1, jc_le0, jc_le1, jc_lt0, jc_lt1, jc_eq0, jc_eq1, Nat.not_lt_zero, Nat.zero_le, ne_eq, false_or, or_false, true_or, or_true, not_false_eq_true, not_true_eq_false, ↓reduceIte, Option.bind_some, Nat.add_sub_cancel, Nat.add_sub_cancel_left, reduceCtorEq, Option.some.injEq, Prod.mk.injEq, true_and, and_true, decide_true, decide_false, Bool.true_eq_false, Bool.false_eq_true, Bool.not_eq_true, Bool.not_eq_false, e1, hkd, hlf]; done))) | (with_reducible refine ifp ?_ ?_; (focus (simp (disch := omega) only [jlo, jl0, jl1, jl2, jl3, jl4, jl5, jl9, jl10, jl12, jl16, jl30, jl60, jl63, jl64, jl80, jl100, jl120, jl512, jlM, jlm, j_lt, j_le, j_eq, j_add, j_mul, j_div, j_mod, j_sub, j_m1, j_nelt, j_melt, j_nele, j_mele, j_neeq, j_meeq, j_nat, j_bz0, j_bz1, jc_le0, jc_le1, jc_lt0, jc_lt1, jc_eq0, jc_eq1, Nat.not_lt_zero, Nat.zero_le, ne_eq, false_or, or_false, true_or, or_true, not_false_eq_true, not_true_eq_false, ↓reduceIte, Option.bind_some, Nat.add_sub_cancel, Nat.add_sub_cancel_left, reduceCtorEq, Option.some.injEq, Prod.mk.injEq, true_and, and_true, decide_true, decide_false, Bool.true_eq_false, Bool.false_eq_true, Bool.not_eq_true, Bool.not_eq_false, e1, hkd, hlf]; done))) | (with_reducible apply bnd1; (focus ((try simp (disch := omega) only [jlo, jl0, jl1, jl2, jl3, jl4, jl5, jl9, jl10, jl12, jl16, jl30, jl60, jl63, jl64, jl80, jl100, jl120, jl512, jlM, jlm, j_lt, j_le, j_eq, j_add, j_mul, j_div, j_mod, j_sub, j_m1, j_nelt, j_melt, j_nele, j_mele, j_neeq, j_meeq, j_nat, j_bz0, j_bz1, jc_le0, jc_le1, jc_lt0, jc_lt1, jc_eq0, jc_eq1, Nat.not_lt_zero, Nat.zero_le, ne_eq, false_or, or_false, true_or, or_true, not_false_eq_true, not_true_eq_false, ↓reduceIte, Option.bind_some, Nat.add_sub_cancel, Nat.add_sub_cancel_left, reduceCtorEq, Option.some.injEq, Prod.mk.injEq, true_and, and_true, decide_true, decide_false, Bool.true_eq_false, Bool.false_eq_true, Bool.not_eq_true, Bool.not_eq_false, e1, hkd, hlf]); exact rfl)); with_reducible refine bnd rfl ?_)))
      rfl
    · rw [if_neg hm]
      refine ⟨.inl rfl, N', k', n', (fi, se, op, jn fu, jn (fu - g')), ?_, s1, by omega⟩
      unfold fF_levelOf
      (repeat (first | (with_reducible refine ifn ?_ ?_; (focus (simp (disch := omega) only [jlo, jl0, jl1, jl2, jl3, jl4, jl5, jl9, jl10, jl12, jl16, jl30, jl60, jl63, jl64, jl80, jl100, jl120, jl512, jlM, jlm, j_lt, j_le, j_eq, j_add, j_mul, j_div, j_mod, j_sub, j_m1, j_nelt, j_melt, j_nele, j_mele, j_neeq, j_meeq, j_nat, j_bz0, j_bz1, jc_le0, jc_le1, jc_lt0, jc_lt1, jc_eq0, jc_eq1, Nat.not_lt_zero, Nat.zero_le, ne_eq, false_or, or_false, true_or, or_true, not_false_eq_true, not_true_eq_false, ↓reduceIte, Option.bind_some, Nat.add_sub_cancel, Nat.add_sub_cancel_left, reduceCtorEq, Option.some.injEq, Prod.mk.injEq, true_and, and_true, decide_true, decide_false, Bool.true_eq_false, Bool.false_eq_true, Bool.not_eq_true, Bool.not_eq_false, e1, hkd]; done))) | (with_reducible refine ifp ?_ ?_; (focus (simp (disch := omega) only [jlo, jl0, jl1, jl2, jl3, jl4, jl5, jl9, jl10, jl12, jl16, jl30, jl60, jl63, jl64, jl80, jl100, jl120, jl512, jlM, jlm, j_lt, j_le, j_eq, j_add, j_mul, j_div, j_mod, j_sub, j_m1, j_nelt, j_melt, j_nele, j_mele, j_neeq, j_meeq, j_nat, j_bz0, j_bz1, jc_le0, jc_le1, jc_lt0, jc_lt1, jc_eq0, jc_eq1, Nat.not_lt_zero, Nat.zero_le, ne_eq, false_or, or_false, true_or, or_true, not_false_eq_true, not_true_eq_false, ↓reduceIte, Option.bind_some, Nat.add_sub_cancel, Nat.add_sub_cancel_left, reduceCtorEq, Option.some.injEq, Prod.mk.injEq, true_and, and_true, decide_true, decide_false, Bool.true_eq_false, Bool.false_eq_true, Bool.not_eq_true, Bool.not_eq_false, e1, hkd]; done))) | (with_reducible apply bnd1; (focus ((try simp (disch := omega) only [jlo, jl0, jl1, jl2, jl3, jl4, jl5, jl9, jl10, jl12, jl16, jl30, jl60, jl63, jl64, jl80, jl100, jl120, jl512, jlM, jlm, j_lt, j_le, j_eq, j_add, j_mul, j_div, j_mod, j_sub, j_m1, j_nelt, j_melt, j_nele, j_mele, j_neeq, j_meeq, j_nat, j_bz0, j_bz1, jc_le0, jc_le1, jc_lt0, jc_lt1, jc_eq0, jc_eq1, Nat.not_lt_zero, Nat.zero_le, ne_eq, false_or, or_false, true_or, or_true, not_false_eq_true, not_true_eq_false, ↓reduceIte, Option.bind_some, Nat.add_sub_cancel, Nat.add_sub_cancel_left, reduceCtorEq, Option.some.injEq, Prod.mk.injEq, true_and, and_true, decide_true, decide_false, Bool.true_eq_false, Bool.false_eq_true, Bool.not_eq_true, Bool.not_eq_false, e1, hkd]); exact rfl)); with_reducible refine bnd rfl ?_)))
      rfl
/-- the types of the variables, in the class -/
def Cv (q : Nat) (N : cN) (tt : Nat → Int32) : List tm → Prop
  | [] => True
  | A :: Γ => (∃ p, tt Γ.length = jn p ∧ Rp N p A ∧ sz A ≤ 60 ∧ dp A ≤ 12 ∧ okt 9 q (10 + Γ.length) A) ∧ Cv q N tt Γ
theorem cv_ex {q : Nat} {N N' : cN} {tt tt' : Nat → Int32} (hx : Ex N N') (Γ : List tm) : (∀ j, j < Γ.length → tt' j = tt j) → Cv q N tt Γ → Cv q N' tt' Γ := by
  induction Γ with
  | nil => intros; trivial
  | cons A Γ ih =>
    intro h1 h
    simp only [List.length_cons] at h1
    obtain ⟨⟨p, g1, g2, g3⟩, g4⟩ := h
    exact ⟨⟨p, (h1 _ (by omega)).trans g1, rp_ex hx _ g2, g3⟩, ih (fun j hj => h1 j (by omega)) g4⟩
theorem cv_get {q : Nat} {N : cN} {tt : Nat → Int32} (Γ : List tm) : ∀ {i : Nat} {A : tm}, Cv q N tt Γ → Γ[i]? = some A → i < Γ.length ∧ ∃ p, tt (Γ.length - 1 - i) = jn p ∧ Rp N p A ∧ sz A ≤ 60 ∧ dp A ≤ 12 ∧ okt 9 q (10 + (Γ.length - 1 - i)) A := by
  induction Γ with
  | nil => intro i A h e; cases e
  | cons A' Γ ih =>
    intro i A h e
    cases i with
    | zero =>
      cases e
      refine ⟨Nat.succ_pos _, ?_⟩
      rw [show (A' :: Γ).length - 1 - 0 = Γ.length from rfl]
      exact h.1
    | succ i =>
      obtain ⟨h1, h2⟩ := ih h.2 e
      simp only [List.length_cons]
      rw [show Γ.length + 1 - 1 - (i + 1) = Γ.length - 1 - i by omega]
      exact ⟨by omega, h2⟩
