def pi2 : tm → Option (tm × tm)
  | .leaf _ => none
  | .branch k x y => if k = 2 then some (x, y) else none
/-- the level of a type -/
def lev (bo : Nat → Option tm) (n : Nat) (A : tm) : Nat ⊕ (Nat × Nat) := match hf bo n A with
  | none => .inl 3
  | some (A', n') => if mk A' % 10 = 1 then .inr (mk A' / 10, n') else .inl 2
/-- a term that is not too much -/
def fit (t : tm) (n : Nat) : Nat ⊕ (tm × Nat) := if sz t ≤ 60 ∧ dp t ≤ 12 then .inr (t, n) else .inl 3
def cmpT (t : tm) : Option (Option (Bool × Nat)) → Nat ⊕ (tm × Nat)
  | some (some (true, n)) => fit t n
  | some (some (false, _)) => .inl 2
  | _ => .inl 3
/-- the type of a term -/
def ty (ct : Nat → tm) (bo : Nat → Option tm) : tm → List tm → Nat → Nat ⊕ (tm × Nat)
  | .leaf m, Γ, n => if m % 10 = 0 then (match Γ[m / 10]? with
      | some A => .inr (shf (m / 10 + 1) 0 A, n)
      | none => .inl 2) else if m % 10 = 1 then .inr (.leaf (m + 10), n) else .inr (ct (m / 10), n)
  | .branch k a b, Γ, n => match ty ct bo a Γ n with
    | .inl e => .inl e
    | .inr (A, n1) => if k = 4 then (match hf bo n1 A with
        | none => .inl 3
        | some (A', n2) => match pi2 A' with
          | none => .inl 2
          | some (x, y) => match ty ct bo b Γ n2 with
            | .inl e => .inl e
            | .inr (B, n3) => cmpT (sbs b 0 y) (sw bo 2000 n3 [(B, x)])) else (match lev bo n1 A with
        | .inl e => .inl e
        | .inr (l1, n2) => match ty ct bo b (a :: Γ) n2 with
          | .inl e => .inl e
          | .inr (B, n3) => if k = 2 then (match lev bo n3 B with
              | .inl e => .inl e
              | .inr (l2, n4) => .inr (.leaf (1 + 10 * Nat.max l1 l2), n4)) else fit (.branch 2 a B) n3)
theorem pi2_some {t x y : tm} (h : pi2 t = some (x, y)) : t = .branch 2 x y := by
  cases t with
  | leaf m => cases h
  | branch k a b =>
    simp only [pi2] at h
    split at h
    · rename_i e
      cases h
      rw [e]
    · cases h
theorem pi2_none {t : tm} (hw : wft t) (h : pi2 t = none) : mk t % 10 ≠ 2 := by
  cases t with
  | leaf m =>
    have := hw.2
    simp only [mk]
    omega
  | branch k a b =>
    simp only [pi2] at h
    split at h
    · cases h
    · have := hw.1
      simp only [mk]
      omega
theorem okt_mk1 {u q c : Nat} {t : tm} (h : okt u q c t) (h1 : mk t % 10 = 1) : mk t / 10 ≤ u := by
  cases t with
  | leaf m =>
    simp only [okt, mk] at *
    omega
  | branch k a b =>
    have := h.1
    simp only [mk] at *
    omega
theorem q_level {fl : Nat} (hfl : 10000 ≤ fl) {q : Nat} {G : cG} {bo : Nat → Option tm} {r f c n : Nat} (hc : 10 ≤ c) (hc2 : c < 900) (hq : q ≤ 16) (hr : r < 80) (hf30 : f ≤ 30) {B : cB} {O : cO} {J : cJ} {t : tm} (hb : Bod q G B bo) (hk : okt 10 q c t) (h60 : sz t ≤ 60) (hd : dp t ≤ 12) (hrow : Row B r t) (hn : n ≤ f) :
    ∃ B' O' J', (∀ r', r' ≠ r → Sm B B' r') ∧ match lev bo n t with
      | .inr (l, n') => l ≤ 10 ∧ n' ≤ n ∧ fm_levelIn fl G B O J (jn f, jn (f - n), jn 0) (jn r) = some (jn l, B', O', J', (jn f, jn (f - n'), jn 0))
      | .inl e => (e = 2 ∨ e = 3) ∧ ∃ x u', fm_levelIn fl G B O J (jn f, jn (f - n), jn 0) (jn r) = some (x, B', O', J', (jn f, u', jn e)) := by
  obtain ⟨B', O', J', sm, m⟩ := q_toHead hfl hc hc2 hq hr hf30 (O := O) (J := J) hb hk h60 hd hrow hn
  refine ⟨B', O', J', sm, ?_⟩
  unfold lev
  rcases h1 : hf bo n t with _ | ⟨t', n'⟩
  · rw [h1] at m
    obtain ⟨u', e⟩ := m
    refine ⟨.inr rfl, jn 0, u', ?_⟩
    unfold fm_levelIn
    (repeat (first | (with_reducible refine ifn ?_ ?_; (focus (simp (disch := omega) only [jlo, jl0, jl1, jl2, jl3, jl4, jl5, jl9, jl10, jl12, jl16, jl30, jl60, jl63, jl64, jl80, jl100, jl120, jl512, jlM, jlm, j_lt, j_le, j_eq, j_add, j_mul, j_div, j_mod, j_sub, j_m1, j_nelt, j_melt, j_nele, j_mele, j_neeq, j_meeq, j_nat, j_bz0, j_bz1, jc_le0, jc_le1, jc_lt0, jc_lt1, jc_eq0, jc_eq1, Nat.not_lt_zero, Nat.zero_le, ne_eq, false_or, or_false, true_or, or_true, not_false_eq_true, not_true_eq_false, ↓reduceIte, Option.bind_some, Nat.add_sub_cancel, Nat.add_sub_cancel_left, reduceCtorEq, Option.some.injEq, Prod.mk.injEq, true_and, and_true, decide_true, decide_false, Bool.true_eq_false, Bool.false_eq_true, Bool.not_eq_true, Bool.not_eq_false, e]; done))) | (with_reducible refine ifp ?_ ?_; (focus (simp (disch := omega) only [jlo, jl0, jl1, jl2, jl3, jl4, jl5, jl9, jl10, jl12, jl16, jl30, jl60, jl63, jl64, jl80, jl100, jl120, jl512, jlM, jlm, j_lt, j_le, j_eq, j_add, j_mul, j_div, j_mod, j_sub, j_m1, j_nelt, j_melt, j_nele, j_mele, j_neeq, j_meeq, j_nat, j_bz0, j_bz1, jc_le0, jc_le1, jc_lt0, jc_lt1, jc_eq0, jc_eq1, Nat.not_lt_zero, Nat.zero_le, ne_eq, false_or, or_false, true_or, or_true, not_false_eq_true, not_true_eq_false, ↓reduceIte, Option.bind_some, Nat.add_sub_cancel, Nat.add_sub_cancel_left, reduceCtorEq, Option.some.injEq, Prod.mk.injEq, true_and, and_true, decide_true, decide_false, Bool.true_eq_false, Bool.false_eq_true, Bool.not_eq_true, Bool.not_eq_false, e]; done))) | (with_reducible apply bnd1; (focus ((try simp (disch := omega) only [jlo, jl0, jl1, jl2, jl3, jl4, jl5, jl9, jl10, jl12, jl16, jl30, jl60, jl63, jl64, jl80, jl100, jl120, jl512, jlM, jlm, j_lt, j_le, j_eq, j_add, j_mul, j_div, j_mod, j_sub, j_m1, j_nelt, j_melt, j_nele, j_mele, j_neeq, j_meeq, j_nat, j_bz0, j_bz1, jc_le0, jc_le1, jc_lt0, jc_lt1, jc_eq0, jc_eq1, Nat.not_lt_zero, Nat.zero_le, ne_eq, false_or, or_false, true_or, or_true, not_false_eq_true, not_true_eq_false, ↓reduceIte, Option.bind_some, Nat.add_sub_cancel, Nat.add_sub_cancel_left, reduceCtorEq, Option.some.injEq, Prod.mk.injEq, true_and, and_true, decide_true, decide_false, Bool.true_eq_false, Bool.false_eq_true, Bool.not_eq_true, Bool.not_eq_false, e]); exact rfl)); with_reducible refine bnd rfl ?_)))
    rfl
  · rw [h1] at m
    obtain ⟨hr', e⟩ := m
    obtain ⟨k1, k2, k3, -⟩ := okt_hf hc (bod_okt hb) n hk h1
    have hdp : dp t' ≤ 12 := by
      rcases k3 with ⟨rfl, -⟩ | k3
      · exact hd
      · exact k3.2.1
    have hw := okt_wft (by omega) (by omega) t' k1 (by omega)
    have x1 := q_at0 (by omega) hr'
    have y1 := mk_lt hw
    simp only
    by_cases hm : mk t' % 10 = 1
    · rw [if_pos hm]
      refine ⟨okt_mk1 k1 hm, k2, ?_⟩
      unfold fm_levelIn
      (repeat (first | (with_reducible refine ifn ?_ ?_; (focus (simp (disch := omega) only [jlo, jl0, jl1, jl2, jl3, jl4, jl5, jl9, jl10, jl12, jl16, jl30, jl60, jl63, jl64, jl80, jl100, jl120, jl512, jlM, jlm, j_lt, j_le, j_eq, j_add, j_mul, j_div, j_mod, j_sub, j_m1, j_nelt, j_melt, j_nele, j_mele, j_neeq, j_meeq, j_nat, j_bz0, j_bz1, jc_le0, jc_le1, jc_lt0, jc_lt1, jc_eq0, jc_eq1, Nat.not_lt_zero, Nat.zero_le, ne_eq, false_or, or_false, true_or, or_true, not_false_eq_true, not_true_eq_false, ↓reduceIte, Option.bind_some, Nat.add_sub_cancel, Nat.add_sub_cancel_left, reduceCtorEq, Option.some.injEq, Prod.mk.injEq, true_and, and_true, decide_true, decide_false, Bool.true_eq_false, Bool.false_eq_true, Bool.not_eq_true, Bool.not_eq_false, e, x1, q_kind]; done))) | (with_reducible refine ifp ?_ ?_; (focus (simp (disch := omega) only [jlo, jl0, jl1, jl2, jl3, jl4, jl5, jl9, jl10, jl12, jl16, jl30, jl60, jl63, jl64, jl80, jl100, jl120, jl512, jlM, jlm, j_lt, j_le, j_eq, j_add, j_mul, j_div, j_mod, j_sub, j_m1, j_nelt, j_melt, j_nele, j_mele, j_neeq, j_meeq, j_nat, j_bz0, j_bz1, jc_le0, jc_le1, jc_lt0, jc_lt1, jc_eq0, jc_eq1, Nat.not_lt_zero, Nat.zero_le, ne_eq, false_or, or_false, true_or, or_true, not_false_eq_true, not_true_eq_false, ↓reduceIte, Option.bind_some, Nat.add_sub_cancel, Nat.add_sub_cancel_left, reduceCtorEq, Option.some.injEq, Prod.mk.injEq, true_and, and_true, decide_true, decide_false, Bool.true_eq_false, Bool.false_eq_true, Bool.not_eq_true, Bool.not_eq_false, e, x1, q_kind]; done))) | (with_reducible apply bnd1; (focus ((try simp (disch := omega) only [jlo, jl0, jl1, jl2, jl3, jl4, jl5, jl9, jl10, jl12, jl16, jl30, jl60, jl63, jl64, jl80, jl100, jl120, jl512, jlM, jlm, j_lt, j_le, j_eq, j_add, j_mul, j_div, j_mod, j_sub, j_m1, j_nelt, j_melt, j_nele, j_mele, j_neeq, j_meeq, j_nat, j_bz0, j_bz1, jc_le0, jc_le1, jc_lt0, jc_lt1, jc_eq0, jc_eq1, Nat.not_lt_zero, Nat.zero_le, ne_eq, false_or, or_false, true_or, or_true, not_false_eq_true, not_true_eq_false, ↓reduceIte, Option.bind_some, Nat.add_sub_cancel, Nat.add_sub_cancel_left, reduceCtorEq, Option.some.injEq, Prod.mk.injEq, true_and, and_true, decide_true, decide_false, Bool.true_eq_false, Bool.false_eq_true, Bool.not_eq_true, Bool.not_eq_false, e, x1, q_kind]); exact rfl)); with_reducible refine bnd rfl ?_)))
      simp (disch := omega) only [jlo, jl0, jl1, jl2, jl3, jl4, jl5, jl9, jl10, jl12, jl16, jl30, jl60, jl63, jl64, jl80, jl100, jl120, jl512, jlM, jlm, j_lt, j_le, j_eq, j_add, j_mul, j_div, j_mod, j_sub, j_m1, j_nelt, j_melt, j_nele, j_mele, j_neeq, j_meeq, j_nat, j_bz0, j_bz1, jc_le0, jc_le1, jc_lt0, jc_lt1, jc_eq0, jc_eq1, Nat.not_lt_zero, Nat.zero_le, ne_eq, false_or, or_false, true_or, or_true, not_false_eq_true, not_true_eq_false, ↓reduceIte, Option.bind_some, Nat.add_sub_cancel, Nat.add_sub_cancel_left, reduceCtorEq, Option.some.injEq, Prod.mk.injEq, true_and, and_true, decide_true, decide_false, Bool.true_eq_false, Bool.false_eq_true, Bool.not_eq_true, Bool.not_eq_false]
    · rw [if_neg hm]
      refine ⟨.inl rfl, jn (mk t' / 10), jn (f - n'), ?_⟩
      unfold fm_levelIn
      (repeat (first | (with_reducible refine ifn ?_ ?_; (focus (simp (disch := omega) only [jlo, jl0, jl1, jl2, jl3, jl4, jl5, jl9, jl10, jl12, jl16, jl30, jl60, jl63, jl64, jl80, jl100, jl120, jl512, jlM, jlm, j_lt, j_le, j_eq, j_add, j_mul, j_div, j_mod, j_sub, j_m1, j_nelt, j_melt, j_nele, j_mele, j_neeq, j_meeq, j_nat, j_bz0, j_bz1, jc_le0, jc_le1, jc_lt0, jc_lt1, jc_eq0, jc_eq1, Nat.not_lt_zero, Nat.zero_le, ne_eq, false_or, or_false, true_or, or_true, not_false_eq_true, not_true_eq_false, ↓reduceIte, Option.bind_some, Nat.add_sub_cancel, Nat.add_sub_cancel_left, reduceCtorEq, Option.some.injEq, Prod.mk.injEq, true_and, and_true, decide_true, decide_false, Bool.true_eq_false, Bool.false_eq_true, Bool.not_eq_true, Bool.not_eq_false, e, x1, q_kind]; done))) | (with_reducible refine ifp ?_ ?_; (focus (simp (disch := omega) only [jlo, jl0, jl1, jl2, jl3, jl4, jl5, jl9, jl10, jl12, jl16, jl30, jl60, jl63, jl64, jl80, jl100, jl120, jl512, jlM, jlm, j_lt, j_le, j_eq, j_add, j_mul, j_div, j_mod, j_sub, j_m1, j_nelt, j_melt, j_nele, j_mele, j_neeq, j_meeq, j_nat, j_bz0, j_bz1, jc_le0, jc_le1, jc_lt0, jc_lt1, jc_eq0, jc_eq1, Nat.not_lt_zero, Nat.zero_le, ne_eq, false_or, or_false, true_or, or_true, not_false_eq_true, not_true_eq_false, ↓reduceIte, Option.bind_some, Nat.add_sub_cancel, Nat.add_sub_cancel_left, reduceCtorEq, Option.some.injEq, Prod.mk.injEq, true_and, and_true, decide_true, decide_false, Bool.true_eq_false, Bool.false_eq_true, Bool.not_eq_true, Bool.not_eq_false, e, x1, q_kind]; done))) | (with_reducible apply bnd1; (focus ((try simp (disch := omega) only [jlo, jl0, jl1, jl2, jl3, jl4, jl5, jl9, jl10, jl12, jl16, jl30, jl60, jl63, jl64, jl80, jl100, jl120, jl512, jlM, jlm, j_lt, j_le, j_eq, j_add, j_mul, j_div, j_mod, j_sub, j_m1, j_nelt, j_melt, j_nele, j_mele, j_neeq, j_meeq, j_nat, j_bz0, j_bz1, jc_le0, jc_le1, jc_lt0, jc_lt1, jc_eq0, jc_eq1, Nat.not_lt_zero, Nat.zero_le, ne_eq, false_or, or_false, true_or, or_true, not_false_eq_true, not_true_eq_false, ↓reduceIte, Option.bind_some, Nat.add_sub_cancel, Nat.add_sub_cancel_left, reduceCtorEq, Option.some.injEq, Prod.mk.injEq, true_and, and_true, decide_true, decide_false, Bool.true_eq_false, Bool.false_eq_true, Bool.not_eq_true, Bool.not_eq_false, e, x1, q_kind]); exact rfl)); with_reducible refine bnd rfl ?_)))
      simp (disch := omega) only [jlo, jl0, jl1, jl2, jl3, jl4, jl5, jl9, jl10, jl12, jl16, jl30, jl60, jl63, jl64, jl80, jl100, jl120, jl512, jlM, jlm, j_lt, j_le, j_eq, j_add, j_mul, j_div, j_mod, j_sub, j_m1, j_nelt, j_melt, j_nele, j_mele, j_neeq, j_meeq, j_nat, j_bz0, j_bz1, jc_le0, jc_le1, jc_lt0, jc_lt1, jc_eq0, jc_eq1, Nat.not_lt_zero, Nat.zero_le, ne_eq, false_or, or_false, true_or, or_true, not_false_eq_true, not_true_eq_false, ↓reduceIte, Option.bind_some, Nat.add_sub_cancel, Nat.add_sub_cancel_left, reduceCtorEq, Option.some.injEq, Prod.mk.injEq, true_and, and_true, decide_true, decide_false, Bool.true_eq_false, Bool.false_eq_true, Bool.not_eq_true, Bool.not_eq_false]
theorem q_same {fl : Nat} (hfl : 10000 ≤ fl) {q f n c : Nat} {G : cG} {bo : Nat → Option tm} (hq : q ≤ 16) (hf30 : f ≤ 30) (hn : n ≤ f) (hc : 10 ≤ c) (hc2 : c ≤ 28) {B : cB} {O : cO} {J : cJ} {Z : cZ} {s t : tm} (hb : Bod q G B bo)
    (hs : sz s ≤ 60 ∧ dp s ≤ 12 ∧ okt 10 q c s) (ht : sz t ≤ 60 ∧ dp t ≤ 12 ∧ okt 10 q c t) (hr0 : Row B 0 s) (hr1 : Row B 1 t) :
    ∃ B' O' J' Z', (∀ r, r ≠ 0 → r ≠ 1 → r ≠ 3 → Sm B B' r) ∧ ((∃ b n', sw bo 2000 n [(s, t)] = some (some (b, n')) ∧ n' ≤ n ∧ fm_areSame fl G B O J (jn f, jn (f - n), jn 0) Z = some (b, B', O', J', (jn f, jn (f - n'), jn 0), Z')) ∨
      (sw bo 2000 n [(s, t)] = some none ∧ ∃ u', fm_areSame fl G B O J (jn f, jn (f - n), jn 0) Z = some (false, B', O', J', (jn f, u', jn 3), Z'))) := by
  have ho : oks q n [(s, t)] := by
    intro p hp
    rcases List.mem_cons.mp hp with rfl | hp
    · exact ⟨c, hc, by simp only; omega, hs, ht⟩
    · cases hp
  have hh : hts n [(s, t)] := ⟨by simp only [List.length_nil]; omega, trivial⟩
  have hΦ : tot [(s, t)] + 60 * n ≤ 1920 := by
    simp only [tot]
    omega
  obtain ⟨res, hres⟩ := sw_gas hq (bod_okt hb) 2000 (n := n) (l := [(s, t)]) (by omega) ho hh
  obtain ⟨zw, zc, zz, zl, zr⟩ := Z
  obtain ⟨B', O', J', Z', sm, m⟩ := q_same_l hfl hq hf30 2000 (O := O) (J := J) (zz := zz) (zl := zl) (zr := zr) hb ho hh hΦ hn hr0 hr1 trivial hres
  refine ⟨B', O', J', Z', sm, ?_⟩
  have e1 : fl - 2000 + 2000 = fl := by omega
  rcases res with _ | ⟨b, n'⟩
  · obtain ⟨u', e⟩ := m
    have e := e (fl - 2000)
    rw [e1] at e
    exact .inr ⟨hres, u', e⟩
  · have e := m.2 (fl - 2000)
    rw [e1] at e
    exact .inl ⟨b, n', hres, m.1, e⟩
/-- the types of the variables, in the rows -/
def Cx (q : Nat) (B : cB) (yc : Nat → Int32) (tp r : Nat) : List tm → Prop
  | [] => True
  | A :: Γ => (∃ rc, yc Γ.length = jn rc ∧ 4 ≤ rc ∧ rc < tp ∧ rc ≠ r ∧ Row B rc A ∧ sz A ≤ 60 ∧ dp A ≤ 12 ∧ okt 9 q (10 + Γ.length) A) ∧ Cx q B yc tp r Γ
theorem cx_get {q : Nat} {B : cB} {yc : Nat → Int32} {tp r : Nat} (Γ : List tm) : ∀ {i : Nat} {A : tm}, Cx q B yc tp r Γ → Γ[i]? = some A → i < Γ.length ∧ ∃ rc, yc (Γ.length - 1 - i) = jn rc ∧ 4 ≤ rc ∧ rc < tp ∧ rc ≠ r ∧ Row B rc A ∧ sz A ≤ 60 ∧ dp A ≤ 12 ∧ okt 9 q (10 + (Γ.length - 1 - i)) A := by
  induction Γ with
  | nil => intro i A h e; cases e
  | cons A' Γ ih =>
    intro i A h e
    cases i with
    | zero =>
      cases e
      refine ⟨Nat.succ_pos _, ?_⟩
      rw [show (A' :: Γ).length - 1 - 0 = Γ.length from rfl]
      exact h.1
    | succ i =>
      obtain ⟨h1, h2⟩ := ih h.2 e
      simp only [List.length_cons]
      rw [show Γ.length + 1 - 1 - (i + 1) = Γ.length - 1 - i by omega]
      exact ⟨by omega, h2⟩
theorem cx_mono {q : Nat} {B B' : cB} {yc yc' : Nat → Int32} {tp tp' r r' : Nat} (htp : tp ≤ tp') (Γ : List tm) : (∀ rc, 4 ≤ rc → rc < tp → rc ≠ r → rc ≠ r' ∧ Sm B B' rc) → (∀ j, j < Γ.length → yc' j = yc j) → Cx q B yc tp r Γ → Cx q B' yc' tp' r' Γ := by
  induction Γ with
  | nil => intros; trivial
  | cons A Γ ih =>
    intro h1 h2 h
    obtain ⟨⟨rc, k1, k2, k3, k4, k5, k6, k7⟩, h3⟩ := h
    obtain ⟨h4, h5⟩ := h1 rc k2 k3 k4
    exact ⟨⟨rc, by rw [h2 _ (by simp only [List.length_cons]; omega)]; exact k1, k2, by omega, h4, row_sm k6 h5 k5, k6, k7⟩, ih h1 (fun j hj => h2 j (by simp only [List.length_cons]; omega)) h3⟩
/-- the types of the constants, in the rows -/
def Typ (q : Nat) (B : cB) (ct : Nat → tm) : Prop := ∀ c, c < q → Row B (64 + c) (ct c) ∧ sz (ct c) ≤ 60 ∧ dp (ct c) ≤ 12 ∧ okt 9 q 10 (ct c)
theorem typ_sm {q : Nat} (hq : q ≤ 16) {B B' : cB} {ct : Nat → tm} (h : Typ q B ct) (hs : ∀ r, 64 ≤ r → Sm B B' r) : Typ q B' ct := by
  intro c hc
  obtain ⟨h1, h2⟩ := h c hc
  exact ⟨row_sm h2.1 (hs _ (by omega)) h1, h2⟩
def kt : tm → Nat
  | .leaf _ => 1
  | .branch _ a b => kt a + kt b + 3
