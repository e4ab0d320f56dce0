/-- raise along a part -/
theorem q_raise_t (fl : Nat) (t : tm) : ∀ {br bl jp ji : Nat → Int32} {r i n b by' z : Nat}, wft t → bl r = jn z → i + sz t ≤ z → z ≤ 60 → r < 96 → by' < 1000 → Seg br (60 * r + i) (enc t) → n + sz t ≤ 120 → jp n = jn b → b + sz t < 900 →
    ∃ br' jp', (∀ w, lp_fm_raise_12 fl (w + sz t) (br, bl) (jp, ji) (jn r) (jn by') (jn (n + 1)) (jn i) = lp_fm_raise_12 fl w (br', bl) (jp', ji) (jn r) (jn by') (jn n) (jn (i + sz t))) ∧ Seg br' (60 * r + i) (enc (shf by' b t)) ∧
      (∀ j, j < n → jp' j = jp j) ∧ ∀ j, j < 60 * r + i ∨ 60 * r + i + sz t ≤ j → br' j = br j := by
  induction t with
  | leaf m =>
    intro br bl jp ji r i n b by' z hw hz hi h60 hr hby hs hn hj hd
    simp only [sz, wft, shf] at *
    have h1 : br (60 * r + i) = jn m := hs.1
    have hq := q_parts (m := m) (by omega)
    rw [decide_eq_false (by omega)] at hq
    by_cases c1 : m % 10 = 0 ∧ b ≤ m / 10
    · rw [if_pos c1]
      have c2 := c1.1
      have c3 := c1.2
      refine ⟨upd br (60 * r + i) (jn (m + 10 * by')), jp, ?_, ⟨if_pos rfl, trivial⟩, fun _ _ => rfl, fun j h => if_neg (by omega)⟩
      intro w
      rw [lp_fm_raise_12]
      simp (disch := omega) only [jlo, jl0, jl1, jl2, jl3, jl4, jl5, jl9, jl10, jl12, jl16, jl30, jl60, jl63, jl64, jl80, jl100, jl120, jl512, jlM, jlm, j_lt, j_le, j_eq, j_add, j_mul, j_div, j_mod, j_sub, j_m1, j_nelt, j_melt, j_nele, j_mele, j_neeq, j_meeq, j_nat, j_bz0, j_bz1, jc_le0, jc_le1, jc_lt0, jc_lt1, jc_eq0, jc_eq1, Nat.not_lt_zero, Nat.zero_le, ne_eq, false_or, or_false, true_or, or_true, not_false_eq_true, not_true_eq_false, ↓reduceIte, Option.bind_some, Nat.add_sub_cancel, Nat.add_sub_cancel_left, reduceCtorEq, Option.some.injEq, Prod.mk.injEq, true_and, and_true, decide_true, decide_false, Bool.true_eq_false, Bool.false_eq_true, Bool.not_eq_true, Bool.not_eq_false, q_at, h1, hq, hj, hz, q_kind]
    · rw [if_neg c1]
      refine ⟨br, jp, ?_, ⟨h1, trivial⟩, fun _ _ => rfl, fun j h => rfl⟩
      intro w
      rw [lp_fm_raise_12]
      by_cases c2 : m % 10 = 0
      · have c3 : m / 10 < b := by omega
        simp (disch := omega) only [jlo, jl0, jl1, jl2, jl3, jl4, jl5, jl9, jl10, jl12, jl16, jl30, jl60, jl63, jl64, jl80, jl100, jl120, jl512, jlM, jlm, j_lt, j_le, j_eq, j_add, j_mul, j_div, j_mod, j_sub, j_m1, j_nelt, j_melt, j_nele, j_mele, j_neeq, j_meeq, j_nat, j_bz0, j_bz1, jc_le0, jc_le1, jc_lt0, jc_lt1, jc_eq0, jc_eq1, Nat.not_lt_zero, Nat.zero_le, ne_eq, false_or, or_false, true_or, or_true, not_false_eq_true, not_true_eq_false, ↓reduceIte, Option.bind_some, Nat.add_sub_cancel, Nat.add_sub_cancel_left, reduceCtorEq, Option.some.injEq, Prod.mk.injEq, true_and, and_true, decide_true, decide_false, Bool.true_eq_false, Bool.false_eq_true, Bool.not_eq_true, Bool.not_eq_false, q_at, h1, hq, hj, hz, q_kind]
      · simp (disch := omega) only [jlo, jl0, jl1, jl2, jl3, jl4, jl5, jl9, jl10, jl12, jl16, jl30, jl60, jl63, jl64, jl80, jl100, jl120, jl512, jlM, jlm, j_lt, j_le, j_eq, j_add, j_mul, j_div, j_mod, j_sub, j_m1, j_nelt, j_melt, j_nele, j_mele, j_neeq, j_meeq, j_nat, j_bz0, j_bz1, jc_le0, jc_le1, jc_lt0, jc_lt1, jc_eq0, jc_eq1, Nat.not_lt_zero, Nat.zero_le, ne_eq, false_or, or_false, true_or, or_true, not_false_eq_true, not_true_eq_false, ↓reduceIte, Option.bind_some, Nat.add_sub_cancel, Nat.add_sub_cancel_left, reduceCtorEq, Option.some.injEq, Prod.mk.injEq, true_and, and_true, decide_true, decide_false, Bool.true_eq_false, Bool.false_eq_true, Bool.not_eq_true, Bool.not_eq_false, q_at, h1, hq, hj, hz, q_kind]
  | branch k l r' hl hr' =>
    intro br bl jp ji r i n b by' z hw hz hi h60 hr hby hs hn hj hd
    have hs := seg_t.mp hs
    simp only [sz, wft, shf] at *
    have hpl := sz_pos l
    have hpr := sz_pos r'
    have hbk := bi_le k
    have h1 : br (60 * r + i) = jn k := hs.1
    have hq := q_parts (m := k) (by omega)
    rw [decide_eq_true (by omega)] at hq
    have he : ∀ w, lp_fm_raise_12 fl (w + 1) (br, bl) (jp, ji) (jn r) (jn by') (jn (n + 1)) (jn i) = lp_fm_raise_12 fl w (br, bl) (upd (upd jp n (jn (b + bi k))) (n + 1) (jn b), ji) (jn r) (jn by') (jn (n + 1 + 1)) (jn (i + 1)) := by
      intro w
      rw [lp_fm_raise_12]
      have hb := q_binds (m := k) (by omega)
      by_cases hk : k = 4
      · rw [decide_eq_false (by omega)] at hb
        have hbi : bi k = 0 := if_pos hk
        simp (disch := omega) only [jlo, jl0, jl1, jl2, jl3, jl4, jl5, jl9, jl10, jl12, jl16, jl30, jl60, jl63, jl64, jl80, jl100, jl120, jl512, jlM, jlm, j_lt, j_le, j_eq, j_add, j_mul, j_div, j_mod, j_sub, j_m1, j_nelt, j_melt, j_nele, j_mele, j_neeq, j_meeq, j_nat, j_bz0, j_bz1, jc_le0, jc_le1, jc_lt0, jc_lt1, jc_eq0, jc_eq1, Nat.not_lt_zero, Nat.zero_le, ne_eq, false_or, or_false, true_or, or_true, not_false_eq_true, not_true_eq_false, ↓reduceIte, Option.bind_some, Nat.add_sub_cancel, Nat.add_sub_cancel_left, reduceCtorEq, Option.some.injEq, Prod.mk.injEq, true_and, and_true, decide_true, decide_false, Bool.true_eq_false, Bool.false_eq_true, Bool.not_eq_true, Bool.not_eq_false, q_at, h1, hq, hj, hz, q_kind, hb, hbi, Nat.add_zero]
      · rw [decide_eq_true (by omega)] at hb
        have hbi : bi k = 1 := if_neg hk
        simp (disch := omega) only [jlo, jl0, jl1, jl2, jl3, jl4, jl5, jl9, jl10, jl12, jl16, jl30, jl60, jl63, jl64, jl80, jl100, jl120, jl512, jlM, jlm, j_lt, j_le, j_eq, j_add, j_mul, j_div, j_mod, j_sub, j_m1, j_nelt, j_melt, j_nele, j_mele, j_neeq, j_meeq, j_nat, j_bz0, j_bz1, jc_le0, jc_le1, jc_lt0, jc_lt1, jc_eq0, jc_eq1, Nat.not_lt_zero, Nat.zero_le, ne_eq, false_or, or_false, true_or, or_true, not_false_eq_true, not_true_eq_false, ↓reduceIte, Option.bind_some, Nat.add_sub_cancel, Nat.add_sub_cancel_left, reduceCtorEq, Option.some.injEq, Prod.mk.injEq, true_and, and_true, decide_true, decide_false, Bool.true_eq_false, Bool.false_eq_true, Bool.not_eq_true, Bool.not_eq_false, q_at, h1, hq, hj, hz, q_kind, hb, hbi]
    obtain ⟨br1, jp1, e1, s1, k1, f1⟩ := hl (br := br) (bl := bl) (jp := upd (upd jp n (jn (b + bi k))) (n + 1) (jn b)) (ji := ji) (r := r) (i := i + 1) (n := n + 1) (b := b) (by' := by') (z := z) hw.2.1 hz (by omega) h60 hr hby
      (by rw [show 60 * r + (i + 1) = 60 * r + i + 1 by omega]; exact hs.2.1) (by omega) (by rw [j_upd, if_pos rfl]) (by omega)
    obtain ⟨br2, jp2, e2, s2, k2, f2⟩ := hr' (br := br1) (bl := bl) (jp := jp1) (ji := ji) (r := r) (i := i + 1 + sz l) (n := n) (b := b + bi k) (by' := by') (z := z) hw.2.2 hz (by omega) h60 hr hby
      (seg_cong (fun j h3 h4 => f1 j (by omega)) (by rw [show 60 * r + (i + 1 + sz l) = 60 * r + i + 1 + sz l by omega]; exact hs.2.2)) (by omega) (by rw [k1 n (by omega), j_upd, if_neg (by omega), j_upd, if_pos rfl]) (by omega)
    refine ⟨br2, jp2, ?_, ?_, ?_, ?_⟩
    · intro w
      rw [show w + (1 + sz l + sz r') = w + sz r' + sz l + 1 by omega, he, e1, e2, show i + 1 + sz l + sz r' = i + (1 + sz l + sz r') by omega]
    · refine seg_t.mpr ⟨?_, ?_, ?_⟩
      · rw [f2 _ (by omega), f1 _ (by omega), h1]
      · refine seg_cong (fun j h3 h4 => f2 j ?_) (by rw [show 60 * r + i + 1 = 60 * r + (i + 1) by omega]; exact s1)
        rw [enc_len, (sz_shf l).1] at h4
        omega
      · rw [(sz_shf l).1, show 60 * r + i + 1 + sz l = 60 * r + (i + 1 + sz l) by omega]
        exact s2
    · intro j h
      rw [k2 j h, k1 j (by omega), j_upd, if_neg (by omega), j_upd, if_neg (by omega)]
    · intro j h
      rw [f2 j (by omega), f1 j (by omega)]
theorem q_raise {fl : Nat} (hfl : 10000 ≤ fl) {t : tm} {B : cB} {J : cJ} {r d : Nat} (hw : wft t) (h60 : sz t ≤ 60) (hr : r < 96) (hd : d < 1000) (hs : Row B r t) :
    ∃ B' J', fm_raise fl B J (jn r) (jn d) = some (B', J') ∧ Row B' r (shf d 0 t) ∧ ∀ r', r' ≠ r → Sm B B' r' := by
  obtain ⟨br, bl⟩ := B
  obtain ⟨jp, ji⟩ := J
  unfold fm_raise
  obtain ⟨br', jp', e, s, -, f⟩ := q_raise_t fl t (br := br) (bl := bl) (jp := upd jp 0 (jn 0)) (ji := ji) (r := r) (i := 0) (n := 0) (b := 0) (by' := d) (z := sz t) hw hs.1 (by omega) h60 hr hd hs.2 (by omega) (by rw [j_upd, if_pos rfl]) (by omega)
  have e := e (fl - 1 - sz t + 1)
  rw [show fl - 1 - sz t + 1 + sz t = fl by omega] at e
  have hz : bl r = jn (sz t) := hs.1
  refine ⟨(br', bl), (jp', ji), ?_, ⟨?_, s⟩, ?_⟩
  · simp (disch := omega) only [jlo, jl0, jl1, jl2, jl3, jl4, jl5, jl9, jl10, jl12, jl16, jl30, jl60, jl63, jl64, jl80, jl100, jl120, jl512, jlM, jlm, j_lt, j_le, j_eq, j_add, j_mul, j_div, j_mod, j_sub, j_m1, j_nelt, j_melt, j_nele, j_mele, j_neeq, j_meeq, j_nat, j_bz0, j_bz1, jc_le0, jc_le1, jc_lt0, jc_lt1, jc_eq0, jc_eq1, Nat.not_lt_zero, Nat.zero_le, ne_eq, false_or, or_false, true_or, or_true, not_false_eq_true, not_true_eq_false, ↓reduceIte, Option.bind_some, Nat.add_sub_cancel, Nat.add_sub_cancel_left, reduceCtorEq, Option.some.injEq, Prod.mk.injEq, true_and, and_true, decide_true, decide_false, Bool.true_eq_false, Bool.false_eq_true, Bool.not_eq_true, Bool.not_eq_false]
    rw [show (0 : Nat) + 1 = 1 from rfl, Nat.zero_add] at e
    rw [e, lp_fm_raise_12]
    simp (disch := omega) only [jlo, jl0, jl1, jl2, jl3, jl4, jl5, jl9, jl10, jl12, jl16, jl30, jl60, jl63, jl64, jl80, jl100, jl120, jl512, jlM, jlm, j_lt, j_le, j_eq, j_add, j_mul, j_div, j_mod, j_sub, j_m1, j_nelt, j_melt, j_nele, j_mele, j_neeq, j_meeq, j_nat, j_bz0, j_bz1, jc_le0, jc_le1, jc_lt0, jc_lt1, jc_eq0, jc_eq1, Nat.not_lt_zero, Nat.zero_le, ne_eq, false_or, or_false, true_or, or_true, not_false_eq_true, not_true_eq_false, ↓reduceIte, Option.bind_some, Nat.add_sub_cancel, Nat.add_sub_cancel_left, reduceCtorEq, Option.some.injEq, Prod.mk.injEq, true_and, and_true, decide_true, decide_false, Bool.true_eq_false, Bool.false_eq_true, Bool.not_eq_true, Bool.not_eq_false, hz]
  · rw [(sz_shf t).1]
    exact hz
  · intro r' h
    exact ⟨rfl, fun j hj => f _ (by omega)⟩
/-- what was put out becomes a row -/
theorem q_take_l {fl r : Nat} {bl oo : Nat → Int32} {og : Int32} {J : cJ} {V : cV} {n : Nat} (hr : r < 96) (hn : n ≤ 60) (ys : List Nat) : ∀ {br : Nat → Int32} {i w : Nat}, i + ys.length = n → Seg oo i ys →
    ∃ br', (∀ w, lp_fm_take_9 fl (w + ys.length) (br, bl) (jn n, oo, og) J V (jn r) (jn i) = lp_fm_take_9 fl w (br', bl) (jn n, oo, og) J V (jn r) (jn n)) ∧ Seg br' (60 * r + i) ys ∧ ∀ j, j < 60 * r + i ∨ 60 * r + 60 ≤ j → br' j = br j := by
  induction ys with
  | nil =>
    intro br i w hi hs
    simp only [List.length_nil, Nat.add_zero] at *
    subst hi
    exact ⟨br, fun _ => rfl, trivial, fun _ _ => rfl⟩
  | cons y ys ih =>
    intro br i w hi hs
    simp only [List.length_cons] at *
    have h1 : oo i = jn y := hs.1
    obtain ⟨br', e, hq, hk⟩ := ih (br := upd br (60 * r + i) (jn y)) (i := i + 1) (w := w) (by omega) hs.2
    refine ⟨br', ?_, ⟨?_, ?_⟩, ?_⟩
    · intro w
      rw [show w + (ys.length + 1) = w + ys.length + 1 by omega, ← e, lp_fm_take_9]
      simp (disch := omega) only [jlo, jl0, jl1, jl2, jl3, jl4, jl5, jl9, jl10, jl12, jl16, jl30, jl60, jl63, jl64, jl80, jl100, jl120, jl512, jlM, jlm, j_lt, j_le, j_eq, j_add, j_mul, j_div, j_mod, j_sub, j_m1, j_nelt, j_melt, j_nele, j_mele, j_neeq, j_meeq, j_nat, j_bz0, j_bz1, jc_le0, jc_le1, jc_lt0, jc_lt1, jc_eq0, jc_eq1, Nat.not_lt_zero, Nat.zero_le, ne_eq, false_or, or_false, true_or, or_true, not_false_eq_true, not_true_eq_false, ↓reduceIte, Option.bind_some, Nat.add_sub_cancel, Nat.add_sub_cancel_left, reduceCtorEq, Option.some.injEq, Prod.mk.injEq, true_and, and_true, decide_true, decide_false, Bool.true_eq_false, Bool.false_eq_true, Bool.not_eq_true, Bool.not_eq_false, h1]
    · rw [hk _ (by omega), j_upd, if_pos (by omega)]
    · rw [show 60 * r + i + 1 = 60 * r + (i + 1) by omega]
      exact hq
    · intro j hj
      rw [hk _ (by omega), j_upd, if_neg (by omega)]
theorem q_take {fl : Nat} (hfl : 10000 ≤ fl) {t : tm} {B : cB} {O : cO} {J : cJ} {vf vu vx : Int32} {r : Nat} (hr : r < 96) (hw : wft t) (ho : Ot O (enc t)) :
    (sz t ≤ 60 ∧ dp t ≤ 12 → ∃ B' J', fm_take fl B O J (vf, vu, vx) (jn r) = some (true, B', J', (vf, vu, vx)) ∧ Row B' r t ∧ ∀ r', r' ≠ r → Sm B B' r') ∧
    (¬ (sz t ≤ 60 ∧ dp t ≤ 12) → ∃ B' J', fm_take fl B O J (vf, vu, vx) (jn r) = some (false, B', J', (vf, vu, jn 3)) ∧ ∀ r', r' ≠ r → Sm B B' r') := by
  by_cases h60 : sz t ≤ 60
  · rcases ho with ⟨h1, h2, h3, h4⟩ | ⟨h1, h2⟩
    · obtain ⟨om, oo, og⟩ := O
      obtain ⟨br, bl⟩ := B
      obtain ⟨jp, ji⟩ := J
      simp only [enc_len] at h1 h2 h3 h4
      subst h2 h3
      obtain ⟨br', e, s, f⟩ := q_take_l (fl := fl) (r := r) (bl := bl) (oo := oo) (og := jn 0) (J := (jp, ji)) (V := (vf, vu, vx)) (n := sz t) hr h60 (enc t) (br := br) (i := 0) (w := 0) (by rw [enc_len]; omega) h4
      have e := e (fl - 1 - sz t + 1)
      rw [enc_len, show fl - 1 - sz t + 1 + sz t = fl by omega] at e
      have hrow : Row (br', upd bl r (jn (sz t))) r t := ⟨if_pos rfl, s⟩
      obtain ⟨jp', hd⟩ := q_deepOf hfl (jp := jp) (ji := ji) hw h60 hr hrow
      have hsm : ∀ r', r' ≠ r → Sm (br, bl) (br', upd bl r (jn (sz t))) r' := fun r' h => ⟨if_neg h, fun j hj => f _ (by omega)⟩
      have hds := dp_sz t
      refine ⟨fun hc => ⟨_, (jp', ji), ?_, hrow, hsm⟩, fun hc => ⟨_, (jp', ji), ?_, hsm⟩⟩
      · unfold fm_take
        simp (disch := omega) only [jlo, jl0, jl1, jl2, jl3, jl4, jl5, jl9, jl10, jl12, jl16, jl30, jl60, jl63, jl64, jl80, jl100, jl120, jl512, jlM, jlm, j_lt, j_le, j_eq, j_add, j_mul, j_div, j_mod, j_sub, j_m1, j_nelt, j_melt, j_nele, j_mele, j_neeq, j_meeq, j_nat, j_bz0, j_bz1, jc_le0, jc_le1, jc_lt0, jc_lt1, jc_eq0, jc_eq1, Nat.not_lt_zero, Nat.zero_le, ne_eq, false_or, or_false, true_or, or_true, not_false_eq_true, not_true_eq_false, ↓reduceIte, Option.bind_some, Nat.add_sub_cancel, Nat.add_sub_cancel_left, reduceCtorEq, Option.some.injEq, Prod.mk.injEq, true_and, and_true, decide_true, decide_false, Bool.true_eq_false, Bool.false_eq_true, Bool.not_eq_true, Bool.not_eq_false]
        rw [e, lp_fm_take_9]
        have := hc.2
        simp (disch := omega) only [jlo, jl0, jl1, jl2, jl3, jl4, jl5, jl9, jl10, jl12, jl16, jl30, jl60, jl63, jl64, jl80, jl100, jl120, jl512, jlM, jlm, j_lt, j_le, j_eq, j_add, j_mul, j_div, j_mod, j_sub, j_m1, j_nelt, j_melt, j_nele, j_mele, j_neeq, j_meeq, j_nat, j_bz0, j_bz1, jc_le0, jc_le1, jc_lt0, jc_lt1, jc_eq0, jc_eq1, Nat.not_lt_zero, Nat.zero_le, ne_eq, false_or, or_false, true_or, or_true, not_false_eq_true, not_true_eq_false, ↓reduceIte, Option.bind_some, Nat.add_sub_cancel, Nat.add_sub_cancel_left, reduceCtorEq, Option.some.injEq, Prod.mk.injEq, true_and, and_true, decide_true, decide_false, Bool.true_eq_false, Bool.false_eq_true, Bool.not_eq_true, Bool.not_eq_false, hd]
      · unfold fm_take
        simp (disch := omega) only [jlo, jl0, jl1, jl2, jl3, jl4, jl5, jl9, jl10, jl12, jl16, jl30, jl60, jl63, jl64, jl80, jl100, jl120, jl512, jlM, jlm, j_lt, j_le, j_eq, j_add, j_mul, j_div, j_mod, j_sub, j_m1, j_nelt, j_melt, j_nele, j_mele, j_neeq, j_meeq, j_nat, j_bz0, j_bz1, jc_le0, jc_le1, jc_lt0, jc_lt1, jc_eq0, jc_eq1, Nat.not_lt_zero, Nat.zero_le, ne_eq, false_or, or_false, true_or, or_true, not_false_eq_true, not_true_eq_false, ↓reduceIte, Option.bind_some, Nat.add_sub_cancel, Nat.add_sub_cancel_left, reduceCtorEq, Option.some.injEq, Prod.mk.injEq, true_and, and_true, decide_true, decide_false, Bool.true_eq_false, Bool.false_eq_true, Bool.not_eq_true, Bool.not_eq_false]
        rw [e, lp_fm_take_9]
        have : 12 < dp t := by omega
        simp (disch := omega) only [jlo, jl0, jl1, jl2, jl3, jl4, jl5, jl9, jl10, jl12, jl16, jl30, jl60, jl63, jl64, jl80, jl100, jl120, jl512, jlM, jlm, j_lt, j_le, j_eq, j_add, j_mul, j_div, j_mod, j_sub, j_m1, j_nelt, j_melt, j_nele, j_mele, j_neeq, j_meeq, j_nat, j_bz0, j_bz1, jc_le0, jc_le1, jc_lt0, jc_lt1, jc_eq0, jc_eq1, Nat.not_lt_zero, Nat.zero_le, ne_eq, false_or, or_false, true_or, or_true, not_false_eq_true, not_true_eq_false, ↓reduceIte, Option.bind_some, Nat.add_sub_cancel, Nat.add_sub_cancel_left, reduceCtorEq, Option.some.injEq, Prod.mk.injEq, true_and, and_true, decide_true, decide_false, Bool.true_eq_false, Bool.false_eq_true, Bool.not_eq_true, Bool.not_eq_false, hd]
    · rw [enc_len] at h1
      omega
  · refine ⟨fun h => absurd h.1 h60, fun _ => ⟨B, J, ?_, fun r' _ => sm_refl B r'⟩⟩
    rcases ho with ⟨h1, h2, h3, h4⟩ | ⟨h1, h2⟩
    · rw [enc_len] at h1
      omega
    · obtain ⟨om, oo, og⟩ := O
      have h2 : og = jn 1 := h2
      subst h2
      unfold fm_take
      simp (disch := omega) only [jlo, jl0, jl1, jl2, jl3, jl4, jl5, jl9, jl10, jl12, jl16, jl30, jl60, jl63, jl64, jl80, jl100, jl120, jl512, jlM, jlm, j_lt, j_le, j_eq, j_add, j_mul, j_div, j_mod, j_sub, j_m1, j_nelt, j_melt, j_nele, j_mele, j_neeq, j_meeq, j_nat, j_bz0, j_bz1, jc_le0, jc_le1, jc_lt0, jc_lt1, jc_eq0, jc_eq1, Nat.not_lt_zero, Nat.zero_le, ne_eq, false_or, or_false, true_or, or_true, not_false_eq_true, not_true_eq_false, ↓reduceIte, Option.bind_some, Nat.add_sub_cancel, Nat.add_sub_cancel_left, reduceCtorEq, Option.some.injEq, Prod.mk.injEq, true_and, and_true, decide_true, decide_false, Bool.true_eq_false, Bool.false_eq_true, Bool.not_eq_true, Bool.not_eq_false]
