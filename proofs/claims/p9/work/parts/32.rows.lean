def Row (B : cB) (r : Nat) (t : tm) : Prop := B.2 r = jn (sz t) ∧ Seg B.1 (60 * r) (enc t)
def Sm (B B' : cB) (r : Nat) : Prop := B'.2 r = B.2 r ∧ ∀ j, j < 60 → B'.1 (60 * r + j) = B.1 (60 * r + j)
theorem sm_refl (B : cB) (r : Nat) : Sm B B r := ⟨rfl, fun _ _ => rfl⟩
theorem sm_trans {B B' B'' : cB} {r : Nat} (h : Sm B B' r) (h' : Sm B' B'' r) : Sm B B'' r := ⟨h'.1.trans h.1, fun j hj => (h'.2 j hj).trans (h.2 j hj)⟩
theorem row_sm {B B' : cB} {r : Nat} {t : tm} (hs : sz t ≤ 60) (h : Sm B B' r) (h' : Row B r t) : Row B' r t := by
  refine ⟨h.1.trans h'.1, seg_cong (fun j h1 h2 => ?_) h'.2⟩
  rw [enc_len] at h2
  have := h.2 (j - 60 * r) (by omega)
  rwa [show 60 * r + (j - 60 * r) = j by omega] at this
theorem q_endOf_t (fl : Nat) (t : tm) : ∀ {br bl : Nat → Int32} {r i need w : Nat} {v2 : Int32}, wft t → Seg br (60 * r + i) (enc t) → 60 * r + i + sz t ≤ 5760 → need + sz t < 20000 →
    lp_fm_endOf_5 fl (w + sz t) (br, bl) (jn r) v2 (jn (need + 1)) (jn i) = lp_fm_endOf_5 fl w (br, bl) (jn r) v2 (jn need) (jn (i + sz t)) := by
  induction t with
  | leaf m =>
    intro br bl r i need w v2 hw hs hb hn
    simp only [sz, wft] at *
    rw [lp_fm_endOf_5]
    have h1 : br (60 * r + i) = jn m := hs.1
    simp (disch := omega) only [jlo, jl0, jl1, jl2, jl3, jl4, jl5, jl9, jl10, jl12, jl16, jl30, jl60, jl63, jl64, jl80, jl100, jl120, jl512, jlM, jlm, j_lt, j_le, j_eq, j_add, j_mul, j_div, j_mod, j_sub, j_m1, j_nelt, j_melt, j_nele, j_mele, j_neeq, j_meeq, j_nat, j_bz0, j_bz1, jc_le0, jc_le1, jc_lt0, jc_lt1, jc_eq0, jc_eq1, Nat.not_lt_zero, Nat.zero_le, ne_eq, false_or, or_false, true_or, or_true, not_false_eq_true, not_true_eq_false, ↓reduceIte, Option.bind_some, Nat.add_sub_cancel, Nat.add_sub_cancel_left, reduceCtorEq, Option.some.injEq, Prod.mk.injEq, true_and, and_true, decide_true, decide_false, Bool.true_eq_false, Bool.false_eq_true, Bool.not_eq_true, Bool.not_eq_false, q_at, h1, q_parts]
    rw [decide_eq_false (by omega)]
    simp (disch := omega) only [jlo, jl0, jl1, jl2, jl3, jl4, jl5, jl9, jl10, jl12, jl16, jl30, jl60, jl63, jl64, jl80, jl100, jl120, jl512, jlM, jlm, j_lt, j_le, j_eq, j_add, j_mul, j_div, j_mod, j_sub, j_m1, j_nelt, j_melt, j_nele, j_mele, j_neeq, j_meeq, j_nat, j_bz0, j_bz1, jc_le0, jc_le1, jc_lt0, jc_lt1, jc_eq0, jc_eq1, Nat.not_lt_zero, Nat.zero_le, ne_eq, false_or, or_false, true_or, or_true, not_false_eq_true, not_true_eq_false, ↓reduceIte, Option.bind_some, Nat.add_sub_cancel, Nat.add_sub_cancel_left, reduceCtorEq, Option.some.injEq, Prod.mk.injEq, true_and, and_true, decide_true, decide_false, Bool.true_eq_false, Bool.false_eq_true, Bool.not_eq_true, Bool.not_eq_false]
  | branch k l r' hl hr =>
    intro br bl r i need w v2 hw hs hb hn
    have hs := seg_t.mp hs
    simp only [sz, wft] at *
    have e1 : w + (1 + sz l + sz r') = w + sz r' + sz l + 1 := by omega
    rw [e1, lp_fm_endOf_5]
    have h1 : br (60 * r + i) = jn k := hs.1
    have hq := q_parts (m := k) (by omega)
    rw [decide_eq_true (by omega)] at hq
    simp (disch := omega) only [jlo, jl0, jl1, jl2, jl3, jl4, jl5, jl9, jl10, jl12, jl16, jl30, jl60, jl63, jl64, jl80, jl100, jl120, jl512, jlM, jlm, j_lt, j_le, j_eq, j_add, j_mul, j_div, j_mod, j_sub, j_m1, j_nelt, j_melt, j_nele, j_mele, j_neeq, j_meeq, j_nat, j_bz0, j_bz1, jc_le0, jc_le1, jc_lt0, jc_lt1, jc_eq0, jc_eq1, Nat.not_lt_zero, Nat.zero_le, ne_eq, false_or, or_false, true_or, or_true, not_false_eq_true, not_true_eq_false, ↓reduceIte, Option.bind_some, Nat.add_sub_cancel, Nat.add_sub_cancel_left, reduceCtorEq, Option.some.injEq, Prod.mk.injEq, true_and, and_true, decide_true, decide_false, Bool.true_eq_false, Bool.false_eq_true, Bool.not_eq_true, Bool.not_eq_false, q_at, h1, hq]
    rw [hl hw.2.1 (by rw [show 60 * r + (i + 1) = 60 * r + i + 1 by omega]; exact hs.2.1) (by omega) (by omega)]
    rw [hr hw.2.2 (by rw [show 60 * r + (i + 1 + sz l) = 60 * r + i + 1 + sz l by omega]; exact hs.2.2) (by omega) (by omega)]
    rw [show i + 1 + sz l + sz r' = i + (1 + sz l + sz r') by omega]
theorem q_endOf {fl : Nat} (hfl : 10000 ≤ fl) {t : tm} {br bl : Nat → Int32} {r i : Nat} (hw : wft t) (hs : Seg br (60 * r + i) (enc t)) (hb : 60 * r + i + sz t ≤ 5760) :
    fm_endOf fl (br, bl) (jn r) (jn i) = some (jn (i + sz t)) := by
  unfold fm_endOf
  obtain ⟨w, hw'⟩ : ∃ w, fl = w + 1 + sz t := ⟨fl - 1 - sz t, by omega⟩
  rw [jl1]
  conv => lhs; arg 2; rw [hw']
  rw [show (1 : Nat) = 0 + 1 from rfl, q_endOf_t fl t hw hs hb (by omega), lp_fm_endOf_5]
  simp (disch := omega) only [jlo, jl0, jl1, jl2, jl3, jl4, jl5, jl9, jl10, jl12, jl16, jl30, jl60, jl63, jl64, jl80, jl100, jl120, jl512, jlM, jlm, j_lt, j_le, j_eq, j_add, j_mul, j_div, j_mod, j_sub, j_m1, j_nelt, j_melt, j_nele, j_mele, j_neeq, j_meeq, j_nat, j_bz0, j_bz1, jc_le0, jc_le1, jc_lt0, jc_lt1, jc_eq0, jc_eq1, Nat.not_lt_zero, Nat.zero_le, ne_eq, false_or, or_false, true_or, or_true, not_false_eq_true, not_true_eq_false, ↓reduceIte, Option.bind_some, Nat.add_sub_cancel, Nat.add_sub_cancel_left, reduceCtorEq, Option.some.injEq, Prod.mk.injEq, true_and, and_true, decide_true, decide_false, Bool.true_eq_false, Bool.false_eq_true, Bool.not_eq_true, Bool.not_eq_false]
theorem q_copyPart_l {fl to fr b : Nat} {bl : Nat → Int32} (ht : to < 96) (hf : fr < 96) (hne : to ≠ fr) (ys : List Nat) : ∀ {br : Nat → Int32} {i w : Nat}, b ≤ i → i + ys.length ≤ 60 → Seg br (60 * fr + i) ys →
    ∃ br', lp_fm_copyPart_11 fl (w + 1 + ys.length) (br, bl) (jn to) (jn fr) (jn b) (jn (i + ys.length)) (jn i) = some (br', upd bl to (jn (i + ys.length - b))) ∧ Seg br' (60 * to + (i - b)) ys ∧
      ∀ j, j < 60 * to + (i - b) ∨ 60 * to + 60 ≤ j → br' j = br j := by
  induction ys with
  | nil =>
    intro br i w hb hi hs
    refine ⟨br, ?_, trivial, fun _ _ => rfl⟩
    simp only [List.length_nil, Nat.add_zero] at *
    rw [lp_fm_copyPart_11]
    simp (disch := omega) only [jlo, jl0, jl1, jl2, jl3, jl4, jl5, jl9, jl10, jl12, jl16, jl30, jl60, jl63, jl64, jl80, jl100, jl120, jl512, jlM, jlm, j_lt, j_le, j_eq, j_add, j_mul, j_div, j_mod, j_sub, j_m1, j_nelt, j_melt, j_nele, j_mele, j_neeq, j_meeq, j_nat, j_bz0, j_bz1, jc_le0, jc_le1, jc_lt0, jc_lt1, jc_eq0, jc_eq1, Nat.not_lt_zero, Nat.zero_le, ne_eq, false_or, or_false, true_or, or_true, not_false_eq_true, not_true_eq_false, ↓reduceIte, Option.bind_some, Nat.add_sub_cancel, Nat.add_sub_cancel_left, reduceCtorEq, Option.some.injEq, Prod.mk.injEq, true_and, and_true, decide_true, decide_false, Bool.true_eq_false, Bool.false_eq_true, Bool.not_eq_true, Bool.not_eq_false]
  | cons y ys ih =>
    intro br i w hb hi hs
    simp only [List.length_cons] at *
    have h1 : br (60 * fr + i) = jn y := hs.1
    have h2 := hs.2
    obtain ⟨br', e, hq, hk⟩ := ih (br := upd br (60 * to + i - b) (jn y)) (i := i + 1) (w := w) (by omega) (by omega) (seg_cong (fun j h3 h4 => by
      rw [j_upd, if_neg (by omega)]) (by rw [show 60 * fr + (i + 1) = 60 * fr + i + 1 by omega]; exact h2))
    refine ⟨br', ?_, ⟨?_, ?_⟩, ?_⟩
    · rw [show w + 1 + (ys.length + 1) = w + 1 + ys.length + 1 by omega, lp_fm_copyPart_11]
      simp (disch := omega) only [jlo, jl0, jl1, jl2, jl3, jl4, jl5, jl9, jl10, jl12, jl16, jl30, jl60, jl63, jl64, jl80, jl100, jl120, jl512, jlM, jlm, j_lt, j_le, j_eq, j_add, j_mul, j_div, j_mod, j_sub, j_m1, j_nelt, j_melt, j_nele, j_mele, j_neeq, j_meeq, j_nat, j_bz0, j_bz1, jc_le0, jc_le1, jc_lt0, jc_lt1, jc_eq0, jc_eq1, Nat.not_lt_zero, Nat.zero_le, ne_eq, false_or, or_false, true_or, or_true, not_false_eq_true, not_true_eq_false, ↓reduceIte, Option.bind_some, Nat.add_sub_cancel, Nat.add_sub_cancel_left, reduceCtorEq, Option.some.injEq, Prod.mk.injEq, true_and, and_true, decide_true, decide_false, Bool.true_eq_false, Bool.false_eq_true, Bool.not_eq_true, Bool.not_eq_false, q_at, h1]
      rw [show i + (ys.length + 1) = i + 1 + ys.length by omega]
      exact e
    · rw [hk _ (by omega), j_upd, if_pos (by omega)]
    · rw [show 60 * to + (i - b) + 1 = 60 * to + (i + 1 - b) by omega]
      exact hq
    · intro j hj
      rw [hk _ (by omega), j_upd, if_neg (by omega)]
theorem q_copyPart {fl : Nat} (hfl : 10000 ≤ fl) {to fr b : Nat} {B : cB} {t : tm} (ht : to < 96) (hf : fr < 96) (hne : to ≠ fr) (hw : wft t) (hb : b + sz t ≤ 60) (hs : Seg B.1 (60 * fr + b) (enc t)) :
    ∃ B', fm_copyPart fl B (jn to) (jn fr) (jn b) = some B' ∧ Row B' to t ∧ ∀ r, r ≠ to → Sm B B' r := by
  obtain ⟨br, bl⟩ := B
  obtain ⟨br', e, hq, hk⟩ := q_copyPart_l (fl := fl) (bl := bl) (b := b) (w := fl - 1 - sz t) ht hf hne (enc t) (Nat.le_refl b) (by rw [enc_len]; exact hb) hs
  rw [enc_len, show fl - 1 - sz t + 1 + sz t = fl by omega, show b + sz t - b = sz t by omega] at e
  refine ⟨(br', upd bl to (jn (sz t))), ?_, ⟨?_, ?_⟩, ?_⟩
  · unfold fm_copyPart
    rw [q_endOf hfl hw hs (by omega), Option.bind_some]
    exact e
  · exact if_pos rfl
  · rwa [show 60 * to + (b - b) = 60 * to by omega] at hq
  · intro r hr
    refine ⟨if_neg hr, fun j hj => hk _ ?_⟩
    omega
theorem q_copy_l {fl to fr n : Nat} {bl : Nat → Int32} (ht : to < 96) (hf : fr < 96) (hne : to ≠ fr) (hbl : bl fr = jn n) (hn : n ≤ 60) (ys : List Nat) : ∀ {br : Nat → Int32} {i w : Nat}, i + ys.length = n → Seg br (60 * fr + i) ys →
    ∃ br', lp_fm_copy_2 fl (w + 1 + ys.length) (br, bl) (jn to) (jn fr) (jn i) = some (br', upd bl to (jn n)) ∧ Seg br' (60 * to + i) ys ∧
      ∀ j, j < 60 * to + i ∨ 60 * to + 60 ≤ j → br' j = br j := by
  induction ys with
  | nil =>
    intro br i w hi hs
    refine ⟨br, ?_, trivial, fun _ _ => rfl⟩
    simp only [List.length_nil, Nat.add_zero] at *
    rw [lp_fm_copy_2]
    simp (disch := omega) only [jlo, jl0, jl1, jl2, jl3, jl4, jl5, jl9, jl10, jl12, jl16, jl30, jl60, jl63, jl64, jl80, jl100, jl120, jl512, jlM, jlm, j_lt, j_le, j_eq, j_add, j_mul, j_div, j_mod, j_sub, j_m1, j_nelt, j_melt, j_nele, j_mele, j_neeq, j_meeq, j_nat, j_bz0, j_bz1, jc_le0, jc_le1, jc_lt0, jc_lt1, jc_eq0, jc_eq1, Nat.not_lt_zero, Nat.zero_le, ne_eq, false_or, or_false, true_or, or_true, not_false_eq_true, not_true_eq_false, ↓reduceIte, Option.bind_some, Nat.add_sub_cancel, Nat.add_sub_cancel_left, reduceCtorEq, Option.some.injEq, Prod.mk.injEq, true_and, and_true, decide_true, decide_false, Bool.true_eq_false, Bool.false_eq_true, Bool.not_eq_true, Bool.not_eq_false, hbl]
  | cons y ys ih =>
    intro br i w hi hs
    simp only [List.length_cons] at *
    have h1 : br (60 * fr + i) = jn y := hs.1
    have h2 := hs.2
    obtain ⟨br', e, hq, hk⟩ := ih (br := upd br (60 * to + i) (jn y)) (i := i + 1) (w := w) (by omega) (seg_cong (fun j h3 h4 => by
      rw [j_upd, if_neg (by omega)]) (by rw [show 60 * fr + (i + 1) = 60 * fr + i + 1 by omega]; exact h2))
    refine ⟨br', ?_, ⟨?_, ?_⟩, ?_⟩
    · rw [show w + 1 + (ys.length + 1) = w + 1 + ys.length + 1 by omega, lp_fm_copy_2]
      simp (disch := omega) only [jlo, jl0, jl1, jl2, jl3, jl4, jl5, jl9, jl10, jl12, jl16, jl30, jl60, jl63, jl64, jl80, jl100, jl120, jl512, jlM, jlm, j_lt, j_le, j_eq, j_add, j_mul, j_div, j_mod, j_sub, j_m1, j_nelt, j_melt, j_nele, j_mele, j_neeq, j_meeq, j_nat, j_bz0, j_bz1, jc_le0, jc_le1, jc_lt0, jc_lt1, jc_eq0, jc_eq1, Nat.not_lt_zero, Nat.zero_le, ne_eq, false_or, or_false, true_or, or_true, not_false_eq_true, not_true_eq_false, ↓reduceIte, Option.bind_some, Nat.add_sub_cancel, Nat.add_sub_cancel_left, reduceCtorEq, Option.some.injEq, Prod.mk.injEq, true_and, and_true, decide_true, decide_false, Bool.true_eq_false, Bool.false_eq_true, Bool.not_eq_true, Bool.not_eq_false, q_at, h1, hbl]
      exact e
    · rw [hk _ (by omega), j_upd, if_pos (by omega)]
    · rw [show 60 * to + i + 1 = 60 * to + (i + 1) by omega]
      exact hq
    · intro j hj
      rw [hk _ (by omega), j_upd, if_neg (by omega)]
theorem q_copy {fl : Nat} (hfl : 10000 ≤ fl) {to fr : Nat} {B : cB} {t : tm} (ht : to < 96) (hf : fr < 96) (hne : to ≠ fr) (hb : sz t ≤ 60) (hs : Row B fr t) :
    ∃ B', fm_copy fl B (jn to) (jn fr) = some B' ∧ Row B' to t ∧ ∀ r, r ≠ to → Sm B B' r := by
  obtain ⟨br, bl⟩ := B
  obtain ⟨br', e, hq, hk⟩ := q_copy_l (fl := fl) (bl := bl) (n := sz t) (i := 0) (w := fl - 1 - sz t) ht hf hne hs.1 hb (enc t) (by rw [enc_len]; omega) hs.2
  rw [enc_len, show fl - 1 - sz t + 1 + sz t = fl by omega] at e
  refine ⟨(br', upd bl to (jn (sz t))), ?_, ⟨?_, ?_⟩, ?_⟩
  · unfold fm_copy
    rw [jl0]
    exact e
  · exact if_pos rfl
  · exact hq
  · intro r hr
    refine ⟨if_neg hr, fun j hj => hk _ ?_⟩
    omega
theorem q_setAtom {r m : Nat} {B : cB} (hr : r < 96) : ∃ B', fm_setAtom B (jn r) (jn m) = some B' ∧ Row B' r (.leaf m) ∧ ∀ r', r' ≠ r → Sm B B' r' := by
  obtain ⟨br, bl⟩ := B
  refine ⟨(upd br (60 * r) (jn m), upd bl r (jn 1)), ?_, ⟨?_, ?_⟩, ?_⟩
  · unfold fm_setAtom
    simp (disch := omega) only [jlo, jl0, jl1, jl2, jl3, jl4, jl5, jl9, jl10, jl12, jl16, jl30, jl60, jl63, jl64, jl80, jl100, jl120, jl512, jlM, jlm, j_lt, j_le, j_eq, j_add, j_mul, j_div, j_mod, j_sub, j_m1, j_nelt, j_melt, j_nele, j_mele, j_neeq, j_meeq, j_nat, j_bz0, j_bz1, jc_le0, jc_le1, jc_lt0, jc_lt1, jc_eq0, jc_eq1, Nat.not_lt_zero, Nat.zero_le, ne_eq, false_or, or_false, true_or, or_true, not_false_eq_true, not_true_eq_false, ↓reduceIte, Option.bind_some, Nat.add_sub_cancel, Nat.add_sub_cancel_left, reduceCtorEq, Option.some.injEq, Prod.mk.injEq, true_and, and_true, decide_true, decide_false, Bool.true_eq_false, Bool.false_eq_true, Bool.not_eq_true, Bool.not_eq_false]
  · exact if_pos rfl
  · exact ⟨if_pos rfl, trivial⟩
  · intro r' hr'
    refine ⟨if_neg hr', fun j hj => ?_⟩
    exact if_neg (by omega)
theorem q_deepOf_t (fl : Nat) (t : tm) : ∀ {br bl jp ji : Nat → Int32} {r i n d mo z w : Nat}, wft t → bl r = jn z → i + sz t ≤ z → z ≤ 60 → r < 96 → Seg br (60 * r + i) (enc t) → n + sz t ≤ 120 → jp n = jn d → d + sz t < 900 → mo < 900 →
    ∃ jp', lp_fm_deepOf_14 fl (w + sz t) (br, bl) (jp, ji) (jn r) (jn (n + 1)) (jn mo) (jn i) = lp_fm_deepOf_14 fl w (br, bl) (jp', ji) (jn r) (jn n) (jn (Nat.max mo (d + dp t - 1))) (jn (i + sz t)) ∧ ∀ j, j < n → jp' j = jp j := by
  induction t with
  | leaf m =>
    intro br bl jp ji r i n d mo z w hw hz hi h60 hr hs hn hj hd hm
    simp only [sz, wft, dp] at *
    refine ⟨jp, ?_, fun _ _ => rfl⟩
    rw [lp_fm_deepOf_14]
    have h1 : br (60 * r + i) = jn m := hs.1
    have hq := q_parts (m := m) (by omega)
    rw [decide_eq_false (by omega)] at hq
    by_cases hc : d ≤ mo
    · rw [show Nat.max mo (d + 1 - 1) = mo from Nat.max_eq_left (by omega)]
      simp (disch := omega) only [jlo, jl0, jl1, jl2, jl3, jl4, jl5, jl9, jl10, jl12, jl16, jl30, jl60, jl63, jl64, jl80, jl100, jl120, jl512, jlM, jlm, j_lt, j_le, j_eq, j_add, j_mul, j_div, j_mod, j_sub, j_m1, j_nelt, j_melt, j_nele, j_mele, j_neeq, j_meeq, j_nat, j_bz0, j_bz1, jc_le0, jc_le1, jc_lt0, jc_lt1, jc_eq0, jc_eq1, Nat.not_lt_zero, Nat.zero_le, ne_eq, false_or, or_false, true_or, or_true, not_false_eq_true, not_true_eq_false, ↓reduceIte, Option.bind_some, Nat.add_sub_cancel, Nat.add_sub_cancel_left, reduceCtorEq, Option.some.injEq, Prod.mk.injEq, true_and, and_true, decide_true, decide_false, Bool.true_eq_false, Bool.false_eq_true, Bool.not_eq_true, Bool.not_eq_false, q_at, h1, hq, hz, hj]
    · rw [show Nat.max mo (d + 1 - 1) = d from Nat.max_eq_right (by omega)]
      simp (disch := omega) only [jlo, jl0, jl1, jl2, jl3, jl4, jl5, jl9, jl10, jl12, jl16, jl30, jl60, jl63, jl64, jl80, jl100, jl120, jl512, jlM, jlm, j_lt, j_le, j_eq, j_add, j_mul, j_div, j_mod, j_sub, j_m1, j_nelt, j_melt, j_nele, j_mele, j_neeq, j_meeq, j_nat, j_bz0, j_bz1, jc_le0, jc_le1, jc_lt0, jc_lt1, jc_eq0, jc_eq1, Nat.not_lt_zero, Nat.zero_le, ne_eq, false_or, or_false, true_or, or_true, not_false_eq_true, not_true_eq_false, ↓reduceIte, Option.bind_some, Nat.add_sub_cancel, Nat.add_sub_cancel_left, reduceCtorEq, Option.some.injEq, Prod.mk.injEq, true_and, and_true, decide_true, decide_false, Bool.true_eq_false, Bool.false_eq_true, Bool.not_eq_true, Bool.not_eq_false, q_at, h1, hq, hz, hj]
  | branch k l r' hl hr' =>
    intro br bl jp ji r i n d mo z w hw hz hi h60 hr hs hn hj hd hm
    have hs := seg_t.mp hs
    simp only [sz, wft, dp] at *
    have hdl := dp_sz l
    have hdr := dp_sz r'
    have hpl := dp_pos l
    have h1 : br (60 * r + i) = jn k := hs.1
    have hq := q_parts (m := k) (by omega)
    rw [decide_eq_true (by omega)] at hq
    obtain ⟨jp1, e1, k1⟩ := hl (br := br) (bl := bl) (jp := upd (upd jp n (jn (d + 1))) (n + 1) (jn (d + 1))) (ji := ji) (r := r) (i := i + 1) (n := n + 1) (d := d + 1) (mo := Nat.max mo d) (z := z) (w := w + sz r') hw.2.1 hz (by omega) h60 hr
      (by rw [show 60 * r + (i + 1) = 60 * r + i + 1 by omega]; exact hs.2.1) (by omega) (by rw [j_upd, if_pos rfl]) (by omega) (Nat.max_lt.mpr ⟨hm, by omega⟩)
    obtain ⟨jp2, e2, k2⟩ := hr' (br := br) (bl := bl) (jp := jp1) (ji := ji) (r := r) (i := i + 1 + sz l) (n := n) (d := d + 1) (mo := Nat.max (Nat.max mo d) (d + 1 + dp l - 1)) (z := z) (w := w) hw.2.2 hz (by omega) h60 hr
      (by rw [show 60 * r + (i + 1 + sz l) = 60 * r + i + 1 + sz l by omega]; exact hs.2.2) (by omega) (by rw [k1 n (by omega), j_upd, if_neg (by omega), j_upd, if_pos rfl]) (by omega) (Nat.max_lt.mpr ⟨Nat.max_lt.mpr ⟨hm, by omega⟩, by omega⟩)
    refine ⟨jp2, ?_, fun j h => by rw [k2 j h, k1 j (by omega), j_upd, if_neg (by omega), j_upd, if_neg (by omega)]⟩
    have e0 : w + (1 + sz l + sz r') = w + sz r' + sz l + 1 := by omega
    have em : Nat.max mo (d + (1 + Nat.max (dp l) (dp r')) - 1) = Nat.max (Nat.max (Nat.max mo d) (d + 1 + dp l - 1)) (d + 1 + dp r' - 1) := by
      change max mo (d + (1 + max (dp l) (dp r')) - 1) = max (max (max mo d) (d + 1 + dp l - 1)) (d + 1 + dp r' - 1)
      omega
    rw [em, show i + (1 + sz l + sz r') = i + 1 + sz l + sz r' by omega, ← e2, e0, lp_fm_deepOf_14]
    by_cases hc : d ≤ mo
    · rw [show Nat.max mo d = mo from Nat.max_eq_left (by omega)] at *
      simp (disch := omega) only [jlo, jl0, jl1, jl2, jl3, jl4, jl5, jl9, jl10, jl12, jl16, jl30, jl60, jl63, jl64, jl80, jl100, jl120, jl512, jlM, jlm, j_lt, j_le, j_eq, j_add, j_mul, j_div, j_mod, j_sub, j_m1, j_nelt, j_melt, j_nele, j_mele, j_neeq, j_meeq, j_nat, j_bz0, j_bz1, jc_le0, jc_le1, jc_lt0, jc_lt1, jc_eq0, jc_eq1, Nat.not_lt_zero, Nat.zero_le, ne_eq, false_or, or_false, true_or, or_true, not_false_eq_true, not_true_eq_false, ↓reduceIte, Option.bind_some, Nat.add_sub_cancel, Nat.add_sub_cancel_left, reduceCtorEq, Option.some.injEq, Prod.mk.injEq, true_and, and_true, decide_true, decide_false, Bool.true_eq_false, Bool.false_eq_true, Bool.not_eq_true, Bool.not_eq_false, q_at, h1, hq, hz, hj]
      rw [e1]
    · rw [show Nat.max mo d = d from Nat.max_eq_right (by omega)] at *
      simp (disch := omega) only [jlo, jl0, jl1, jl2, jl3, jl4, jl5, jl9, jl10, jl12, jl16, jl30, jl60, jl63, jl64, jl80, jl100, jl120, jl512, jlM, jlm, j_lt, j_le, j_eq, j_add, j_mul, j_div, j_mod, j_sub, j_m1, j_nelt, j_melt, j_nele, j_mele, j_neeq, j_meeq, j_nat, j_bz0, j_bz1, jc_le0, jc_le1, jc_lt0, jc_lt1, jc_eq0, jc_eq1, Nat.not_lt_zero, Nat.zero_le, ne_eq, false_or, or_false, true_or, or_true, not_false_eq_true, not_true_eq_false, ↓reduceIte, Option.bind_some, Nat.add_sub_cancel, Nat.add_sub_cancel_left, reduceCtorEq, Option.some.injEq, Prod.mk.injEq, true_and, and_true, decide_true, decide_false, Bool.true_eq_false, Bool.false_eq_true, Bool.not_eq_true, Bool.not_eq_false, q_at, h1, hq, hz, hj]
      rw [e1]
theorem q_deepOf {fl : Nat} (hfl : 10000 ≤ fl) {t : tm} {B : cB} {jp ji : Nat → Int32} {r : Nat} (hw : wft t) (h60 : sz t ≤ 60) (hr : r < 96) (hs : Row B r t) :
    ∃ jp', fm_deepOf fl B (jp, ji) (jn r) = some (jn (dp t), (jp', ji)) := by
  obtain ⟨br, bl⟩ := B
  unfold fm_deepOf
  obtain ⟨jp', e, -⟩ := q_deepOf_t fl t (br := br) (bl := bl) (jp := upd jp 0 (jn 1)) (ji := ji) (r := r) (i := 0) (n := 0) (d := 1) (mo := 0) (z := sz t) (w := fl - 1 - sz t + 1) hw hs.1 (by omega) h60 hr hs.2 (by omega) (by rw [j_upd, if_pos rfl]) (by omega) (by omega)
  refine ⟨jp', ?_⟩
  rw [show fl - 1 - sz t + 1 + sz t = fl by omega] at e
  have hz : bl r = jn (sz t) := hs.1
  simp (disch := omega) only [jlo, jl0, jl1, jl2, jl3, jl4, jl5, jl9, jl10, jl12, jl16, jl30, jl60, jl63, jl64, jl80, jl100, jl120, jl512, jlM, jlm, j_lt, j_le, j_eq, j_add, j_mul, j_div, j_mod, j_sub, j_m1, j_nelt, j_melt, j_nele, j_mele, j_neeq, j_meeq, j_nat, j_bz0, j_bz1, jc_le0, jc_le1, jc_lt0, jc_lt1, jc_eq0, jc_eq1, Nat.not_lt_zero, Nat.zero_le, ne_eq, false_or, or_false, true_or, or_true, not_false_eq_true, not_true_eq_false, ↓reduceIte, Option.bind_some, Nat.add_sub_cancel, Nat.add_sub_cancel_left, reduceCtorEq, Option.some.injEq, Prod.mk.injEq, true_and, and_true, decide_true, decide_false, Bool.true_eq_false, Bool.false_eq_true, Bool.not_eq_true, Bool.not_eq_false]
  have hm : Nat.max 0 (1 + dp t - 1) = dp t := by change max 0 (1 + dp t - 1) = dp t; omega
  rw [hm, show (0 : Nat) + 1 = 1 from rfl, Nat.zero_add] at e
  rw [e, lp_fm_deepOf_14]
  simp (disch := omega) only [jlo, jl0, jl1, jl2, jl3, jl4, jl5, jl9, jl10, jl12, jl16, jl30, jl60, jl63, jl64, jl80, jl100, jl120, jl512, jlM, jlm, j_lt, j_le, j_eq, j_add, j_mul, j_div, j_mod, j_sub, j_m1, j_nelt, j_melt, j_nele, j_mele, j_neeq, j_meeq, j_nat, j_bz0, j_bz1, jc_le0, jc_le1, jc_lt0, jc_lt1, jc_eq0, jc_eq1, Nat.not_lt_zero, Nat.zero_le, ne_eq, false_or, or_false, true_or, or_true, not_false_eq_true, not_true_eq_false, ↓reduceIte, Option.bind_some, Nat.add_sub_cancel, Nat.add_sub_cancel_left, reduceCtorEq, Option.some.injEq, Prod.mk.injEq, true_and, and_true, decide_true, decide_false, Bool.true_eq_false, Bool.false_eq_true, Bool.not_eq_true, Bool.not_eq_false, hz]
