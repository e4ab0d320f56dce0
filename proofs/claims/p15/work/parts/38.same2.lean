theorem cmp2_case (s t : tm) : cmp2 s t = none ∨ (cmp2 s t = some [] ∧ ∃ m, s = .leaf m ∧ t = .leaf m) ∨ ∃ k a b a' b', s = .branch k a b ∧ t = .branch k a' b' ∧ cmp2 s t = some [(a, a'), (b, b')] := by
  cases s with
  | leaf m =>
    cases t with
    | leaf m' =>
      by_cases h : m = m'
      · subst h
        exact .inr (.inl ⟨if_pos rfl, m, rfl, rfl⟩)
      · exact .inl (if_neg h)
    | branch k' a' b' => exact .inl rfl
  | branch k a b =>
    cases t with
    | leaf m' => exact .inl rfl
    | branch k' a' b' =>
      by_cases h : k = k'
      · subst h
        exact .inr (.inr ⟨k, a, b, a', b', rfl, rfl, if_pos rfl⟩)
      · exact .inl (if_neg h)
theorem sw_gas {q : Nat} (hq : q ≤ 16) {bo : Nat → Option tm} (hbo : ∀ i b, i < q → bo i = some b → okt 10 q 10 b) (g : Nat) : ∀ {n : Nat} {l : List (tm × tm)}, tot l + 60 * n < g → oks q n l → hts n l → ∃ r, sw bo g n l = some r := by
  induction g with
  | zero => intro n l h; omega
  | succ g ih =>
    intro n l h ho ht
    cases l with
    | nil => exact ⟨_, rfl⟩
    | cons p l =>
      obtain ⟨s, t⟩ := p
      rcases h1 : hf bo n s with _ | ⟨s', n1⟩
      · exact ⟨none, by simp only [sw, h1]⟩
      · rcases h2 : hf bo n1 t with _ | ⟨t', n2⟩
        · exact ⟨none, by simp only [sw, h1, h2]⟩
        · obtain ⟨-, -, -, -, k1, k2⟩ := sw_step hq hbo ho ht h1 h2
          rcases cmp2_case s' t' with hc | ⟨hc, -⟩ | ⟨k, a, b, a', b', rfl, rfl, hc⟩
          · exact ⟨some (false, n2), by simp only [sw, h1, h2, hc]⟩
          · obtain ⟨o1, o2, o3⟩ := k1 hc
            obtain ⟨r, hr⟩ := ih (by omega) o1 o2
            exact ⟨r, by simp only [sw, h1, h2, hc, List.nil_append]; exact hr⟩
          · obtain ⟨o1, o2, o3⟩ := k2 k a b a' b' rfl rfl
            obtain ⟨r, hr⟩ := ih (by omega) o1 o2
            exact ⟨r, by simp only [sw, h1, h2, hc]; exact hr⟩
theorem q_pushRest_l {fl r e : Nat} {br bl : Nat → Int32} {v2 zw : Int32} {zl zr : Nat → Int32} (hr : r < 96) (hbl : bl r = jn e) (he : e ≤ 60) (ys : List Nat) : ∀ {zz : Nat → Int32} {c i : Nat}, i + ys.length = e → c + ys.length ≤ 3999 → Seg br (60 * r + i) ys →
    ∃ zz', (∀ w, lp_fm_pushRest_2 fl (w + 1 + ys.length) (br, bl) (zw, jn c, zz, zl, zr) (jn r) v2 (jn i) = some (zw, jn (c + ys.length), zz', zl, zr)) ∧ Seg zz' c ys ∧ ∀ j, j < c → zz' j = zz j := by
  induction ys with
  | nil =>
    intro zz c i hi hc hs
    refine ⟨zz, fun w => ?_, trivial, fun _ _ => rfl⟩
    simp only [List.length_nil, Nat.add_zero] at *
    rw [lp_fm_pushRest_2]
    simp (disch := omega) only [jlo, jl0, jl1, jl2, jl3, jl4, jl5, jl9, jl10, jl12, jl16, jl30, jl60, jl63, jl64, jl80, jl100, jl120, jl512, jlM, jlm, j_lt, j_le, j_eq, j_add, j_mul, j_div, j_mod, j_sub, j_m1, j_nelt, j_melt, j_nele, j_mele, j_neeq, j_meeq, j_nat, j_bz0, j_bz1, jc_le0, jc_le1, jc_lt0, jc_lt1, jc_eq0, jc_eq1, Nat.not_lt_zero, Nat.zero_le, ne_eq, false_or, or_false, true_or, or_true, not_false_eq_true, not_true_eq_false, ↓reduceIte, Option.bind_some, Nat.add_sub_cancel, Nat.add_sub_cancel_left, reduceCtorEq, Option.some.injEq, Prod.mk.injEq, true_and, and_true, decide_true, decide_false, Bool.true_eq_false, Bool.false_eq_true, Bool.not_eq_true, Bool.not_eq_false, hbl]
  | cons y ys ih =>
    intro zz c i hi hc hs
    simp only [List.length_cons] at *
    have h1 : br (60 * r + i) = jn y := hs.1
    obtain ⟨zz', e', hs', hk⟩ := ih (zz := upd zz c (jn y)) (c := c + 1) (i := i + 1) (by omega) (by omega) (by rw [show 60 * r + (i + 1) = 60 * r + i + 1 by omega]; exact hs.2)
    refine ⟨zz', fun w => ?_, ⟨?_, hs'⟩, ?_⟩
    · rw [show w + 1 + (ys.length + 1) = w + 1 + ys.length + 1 by omega, lp_fm_pushRest_2]
      simp (disch := omega) only [jlo, jl0, jl1, jl2, jl3, jl4, jl5, jl9, jl10, jl12, jl16, jl30, jl60, jl63, jl64, jl80, jl100, jl120, jl512, jlM, jlm, j_lt, j_le, j_eq, j_add, j_mul, j_div, j_mod, j_sub, j_m1, j_nelt, j_melt, j_nele, j_mele, j_neeq, j_meeq, j_nat, j_bz0, j_bz1, jc_le0, jc_le1, jc_lt0, jc_lt1, jc_eq0, jc_eq1, Nat.not_lt_zero, Nat.zero_le, ne_eq, false_or, or_false, true_or, or_true, not_false_eq_true, not_true_eq_false, ↓reduceIte, Option.bind_some, Nat.add_sub_cancel, Nat.add_sub_cancel_left, reduceCtorEq, Option.some.injEq, Prod.mk.injEq, true_and, and_true, decide_true, decide_false, Bool.true_eq_false, Bool.false_eq_true, Bool.not_eq_true, Bool.not_eq_false, q_at, h1, hbl]
      rw [e', show c + 1 + ys.length = c + (ys.length + 1) by omega]
    · rw [hk _ (by omega), j_upd, if_pos rfl]
    · intro j hj
      rw [hk _ (by omega), j_upd, if_neg (by omega)]
theorem q_pushRest {fl : Nat} (hfl : 10000 ≤ fl) {r i c : Nat} {B : cB} {t : tm} {zw : Int32} {zz zl zr : Nat → Int32} (hr : r < 96) (hbl : B.2 r = jn (i + sz t)) (he : i + sz t ≤ 60) (hc : c + sz t ≤ 3999) (hs : Seg B.1 (60 * r + i) (enc t)) :
    ∃ zz', fm_pushRest fl B (zw, jn c, zz, zl, zr) (jn r) (jn i) = some (zw, jn (c + sz t), zz', zl, zr) ∧ Seg zz' c (enc t) ∧ ∀ j, j < c → zz' j = zz j := by
  obtain ⟨br, bl⟩ := B
  obtain ⟨zz', e, h1, h2⟩ := q_pushRest_l (fl := fl) (zw := zw) (zl := zl) (zr := zr) (v2 := jn i) hr hbl he (enc t) (zz := zz) (c := c) (i := i) (by rw [enc_len]) (by rw [enc_len]; exact hc) hs
  refine ⟨zz', ?_, h1, h2⟩
  have e := e (fl - 1 - sz t)
  rw [enc_len, show fl - 1 - sz t + 1 + sz t = fl by omega] at e
  exact e
theorem q_pop_l {fl r n c : Nat} {zw : Int32} {zz zl zr : Nat → Int32} {bl : Nat → Int32} (hr : r < 96) (hn : n ≤ 60) (hc : c + n ≤ 3999) (ys : List Nat) : ∀ {br : Nat → Int32} {i : Nat}, i + ys.length = n → Seg zz (c + i) ys →
    ∃ br', (∀ w, lp_fm_pop_12 fl (w + 1 + ys.length) (br, bl) (zw, jn c, zz, zl, zr) (jn r) (jn n) (jn i) = some ((br', upd bl r (jn n)), (zw, jn c, zz, zl, zr))) ∧ Seg br' (60 * r + i) ys ∧ ∀ j, j < 60 * r + i ∨ 60 * r + 60 ≤ j → br' j = br j := by
  induction ys with
  | nil =>
    intro br i hi hs
    refine ⟨br, fun w => ?_, trivial, fun _ _ => rfl⟩
    simp only [List.length_nil, Nat.add_zero] at *
    rw [lp_fm_pop_12]
    simp (disch := omega) only [jlo, jl0, jl1, jl2, jl3, jl4, jl5, jl9, jl10, jl12, jl16, jl30, jl60, jl63, jl64, jl80, jl100, jl120, jl512, jlM, jlm, j_lt, j_le, j_eq, j_add, j_mul, j_div, j_mod, j_sub, j_m1, j_nelt, j_melt, j_nele, j_mele, j_neeq, j_meeq, j_nat, j_bz0, j_bz1, jc_le0, jc_le1, jc_lt0, jc_lt1, jc_eq0, jc_eq1, Nat.not_lt_zero, Nat.zero_le, ne_eq, false_or, or_false, true_or, or_true, not_false_eq_true, not_true_eq_false, ↓reduceIte, Option.bind_some, Nat.add_sub_cancel, Nat.add_sub_cancel_left, reduceCtorEq, Option.some.injEq, Prod.mk.injEq, true_and, and_true, decide_true, decide_false, Bool.true_eq_false, Bool.false_eq_true, Bool.not_eq_true, Bool.not_eq_false]
  | cons y ys ih =>
    intro br i hi hs
    simp only [List.length_cons] at *
    have h1 : zz (c + i) = jn y := hs.1
    obtain ⟨br', e', hs', hk⟩ := ih (br := upd br (60 * r + i) (jn y)) (i := i + 1) (by omega) hs.2
    refine ⟨br', fun w => ?_, ⟨?_, ?_⟩, ?_⟩
    · rw [show w + 1 + (ys.length + 1) = w + 1 + ys.length + 1 by omega, lp_fm_pop_12]
      simp (disch := omega) only [jlo, jl0, jl1, jl2, jl3, jl4, jl5, jl9, jl10, jl12, jl16, jl30, jl60, jl63, jl64, jl80, jl100, jl120, jl512, jlM, jlm, j_lt, j_le, j_eq, j_add, j_mul, j_div, j_mod, j_sub, j_m1, j_nelt, j_melt, j_nele, j_mele, j_neeq, j_meeq, j_nat, j_bz0, j_bz1, jc_le0, jc_le1, jc_lt0, jc_lt1, jc_eq0, jc_eq1, Nat.not_lt_zero, Nat.zero_le, ne_eq, false_or, or_false, true_or, or_true, not_false_eq_true, not_true_eq_false, ↓reduceIte, Option.bind_some, Nat.add_sub_cancel, Nat.add_sub_cancel_left, reduceCtorEq, Option.some.injEq, Prod.mk.injEq, true_and, and_true, decide_true, decide_false, Bool.true_eq_false, Bool.false_eq_true, Bool.not_eq_true, Bool.not_eq_false, h1]
      exact e' w
    · rw [hk _ (by omega), j_upd, if_pos rfl]
    · rw [show 60 * r + i + 1 = 60 * r + (i + 1) by omega]
      exact hs'
    · intro j hj
      rw [hk _ (by omega), j_upd, if_neg (by omega)]
theorem q_pop {fl : Nat} (hfl : 10000 ≤ fl) {r c : Nat} {B : cB} {t : tm} {zw : Int32} {zz zl zr : Nat → Int32} (hr : r < 96) (h60 : sz t ≤ 60) (hc : c + sz t ≤ 3999) (hs : Seg zz c (enc t)) :
    ∃ B', fm_pop fl B (zw, jn (c + sz t), zz, zl, zr) (jn r) (jn (sz t)) = some (B', (zw, jn c, zz, zl, zr)) ∧ Row B' r t ∧ ∀ r', r' ≠ r → Sm B B' r' := by
  obtain ⟨br, bl⟩ := B
  obtain ⟨br', e, h1, h2⟩ := q_pop_l (fl := fl) (zw := zw) (zl := zl) (zr := zr) (zz := zz) (bl := bl) hr h60 hc (enc t) (br := br) (i := 0) (by rw [enc_len]; omega) hs
  refine ⟨(br', upd bl r (jn (sz t))), ?_, ⟨if_pos rfl, h1⟩, ?_⟩
  · have e := e (fl - 1 - sz t)
    rw [enc_len, show fl - 1 - sz t + 1 + sz t = fl by omega] at e
    unfold fm_pop
    simp (disch := omega) only [jlo, jl0, jl1, jl2, jl3, jl4, jl5, jl9, jl10, jl12, jl16, jl30, jl60, jl63, jl64, jl80, jl100, jl120, jl512, jlM, jlm, j_lt, j_le, j_eq, j_add, j_mul, j_div, j_mod, j_sub, j_m1, j_nelt, j_melt, j_nele, j_mele, j_neeq, j_meeq, j_nat, j_bz0, j_bz1, jc_le0, jc_le1, jc_lt0, jc_lt1, jc_eq0, jc_eq1, Nat.not_lt_zero, Nat.zero_le, ne_eq, false_or, or_false, true_or, or_true, not_false_eq_true, not_true_eq_false, ↓reduceIte, Option.bind_some, Nat.add_sub_cancel, Nat.add_sub_cancel_left, reduceCtorEq, Option.some.injEq, Prod.mk.injEq, true_and, and_true, decide_true, decide_false, Bool.true_eq_false, Bool.false_eq_true, Bool.not_eq_true, Bool.not_eq_false]
    exact e
  · intro r' h
    exact ⟨if_neg h, fun j hj => h2 _ (by omega)⟩
/-- the pairs that wait -/
def Zs (zz zl zr : Nat → Int32) : List (tm × tm) → Prop
  | [] => True
  | (s, t) :: l => zl l.length = jn (sz s) ∧ zr l.length = jn (sz t) ∧ Seg zz (tot l) (enc s) ∧ Seg zz (tot l + sz s) (enc t) ∧ Zs zz zl zr l
theorem zs_cong {zz zl zr zz' zl' zr' : Nat → Int32} (l : List (tm × tm)) : (∀ j, j < tot l → zz' j = zz j) → (∀ j, j < l.length → zl' j = zl j) → (∀ j, j < l.length → zr' j = zr j) → Zs zz zl zr l → Zs zz' zl' zr' l := by
  induction l with
  | nil => intros; trivial
  | cons p l ih =>
    obtain ⟨s, t⟩ := p
    intro h1 h2 h3 h
    simp only [tot, List.length_cons] at h1 h2 h3
    refine ⟨(h2 _ (by omega)).trans h.1, (h3 _ (by omega)).trans h.2.1, seg_cong (fun j _ hj => h1 j ?_) h.2.2.1, seg_cong (fun j _ hj => h1 j ?_) h.2.2.2.1, ih (fun j hj => h1 j (by omega)) (fun j hj => h2 j (by omega)) (fun j hj => h3 j (by omega)) h.2.2.2.2⟩
    · rw [enc_len] at hj
      omega
    · rw [enc_len] at hj
      omega
theorem hts_len {n : Nat} {p : tm × tm} {l : List (tm × tm)} (h : hts n (p :: l)) : l.length ≤ 371 := by
  have h1 := h.1
  have := dp_pos p.1
  omega
