/-- a term in the tables -/
def Tr (mt : Nat) (K L R : Nat → Int32) : Nat → tm → Prop
  | p, .leaf m => p < mt ∧ K p = jn (m % 10) ∧ L p = jn (m / 10)
  | p, .branch k l r => p < mt ∧ K p = jn k ∧ ∃ a b, L p = jn a ∧ R p = jn b ∧ Tr mt K L R a l ∧ Tr mt K L R b r
theorem tr_lt {mt : Nat} {K L R : Nat → Int32} {p : Nat} {t : tm} (h : Tr mt K L R p t) : p < mt := by
  cases t with
  | leaf m => exact h.1
  | branch k l r => exact h.1
theorem q_load_t (fl : Nat) {mt : Nat} (hmt : mt ≤ 120) {te : Int32} {tk ta tb tn td : Nat → Int32} {v2 : Int32} (t : tm) : ∀ {br bl jp ji : Nat → Int32} {r i n x : Nat}, wft t → Tr mt tk ta tb x t → r < 96 → i + sz t ≤ 60 → n + sz t ≤ 120 → jp n = jn x →
    ∃ br' jp', (∀ w, lp_fm_load_12 fl (w + sz t) (te, tk, ta, tb, tn, td) (br, bl) (jp, ji) (jn r) v2 (jn (n + 1)) (jn i) = lp_fm_load_12 fl w (te, tk, ta, tb, tn, td) (br', bl) (jp', ji) (jn r) v2 (jn n) (jn (i + sz t))) ∧ Seg br' (60 * r + i) (enc t) ∧
      (∀ j, j < n → jp' j = jp j) ∧ ∀ j, j < 60 * r + i ∨ 60 * r + i + sz t ≤ j → br' j = br j := by
  induction t with
  | leaf m =>
    intro br bl jp ji r i n x hw ht hr hi hn hj
    simp only [sz, wft, Tr] at *
    obtain ⟨h1, h2, h3⟩ := ht
    refine ⟨upd br (60 * r + i) (jn m), jp, ?_, ⟨if_pos rfl, trivial⟩, fun _ _ => rfl, fun j h => if_neg (by omega)⟩
    intro w
    rw [lp_fm_load_12]
    have hm : m % 10 + 10 * (m / 10) = m := by omega
    by_cases c : m % 10 < 2
    · (repeat (first | (with_reducible refine ifn ?_ ?_; (focus (simp (disch := omega) only [jlo, jl0, jl1, jl2, jl3, jl4, jl5, jl9, jl10, jl12, jl16, jl30, jl60, jl63, jl64, jl80, jl100, jl120, jl512, jlM, jlm, j_lt, j_le, j_eq, j_add, j_mul, j_div, j_mod, j_sub, j_m1, j_nelt, j_melt, j_nele, j_mele, j_neeq, j_meeq, j_nat, j_bz0, j_bz1, jc_le0, jc_le1, jc_lt0, jc_lt1, jc_eq0, jc_eq1, Nat.not_lt_zero, Nat.zero_le, ne_eq, false_or, or_false, true_or, or_true, not_false_eq_true, not_true_eq_false, ↓reduceIte, Option.bind_some, Nat.add_sub_cancel, Nat.add_sub_cancel_left, reduceCtorEq, Option.some.injEq, Prod.mk.injEq, true_and, and_true, decide_true, decide_false, Bool.true_eq_false, Bool.false_eq_true, Bool.not_eq_true, Bool.not_eq_false, hj, h2, h3, hm]; done))) | (with_reducible refine ifp ?_ ?_; (focus (simp (disch := omega) only [jlo, jl0, jl1, jl2, jl3, jl4, jl5, jl9, jl10, jl12, jl16, jl30, jl60, jl63, jl64, jl80, jl100, jl120, jl512, jlM, jlm, j_lt, j_le, j_eq, j_add, j_mul, j_div, j_mod, j_sub, j_m1, j_nelt, j_melt, j_nele, j_mele, j_neeq, j_meeq, j_nat, j_bz0, j_bz1, jc_le0, jc_le1, jc_lt0, jc_lt1, jc_eq0, jc_eq1, Nat.not_lt_zero, Nat.zero_le, ne_eq, false_or, or_false, true_or, or_true, not_false_eq_true, not_true_eq_false, ↓reduceIte, Option.bind_some, Nat.add_sub_cancel, Nat.add_sub_cancel_left, reduceCtorEq, Option.some.injEq, Prod.mk.injEq, true_and, and_true, decide_true, decide_false, Bool.true_eq_false, Bool.false_eq_true, Bool.not_eq_true, Bool.not_eq_false, hj, h2, h3, hm]; done))) | (with_reducible apply bnd1; (focus ((try simp (disch := omega) only [jlo, jl0, jl1, jl2, jl3, jl4, jl5, jl9, jl10, jl12, jl16, jl30, jl60, jl63, jl64, jl80, jl100, jl120, jl512, jlM, jlm, j_lt, j_le, j_eq, j_add, j_mul, j_div, j_mod, j_sub, j_m1, j_nelt, j_melt, j_nele, j_mele, j_neeq, j_meeq, j_nat, j_bz0, j_bz1, jc_le0, jc_le1, jc_lt0, jc_lt1, jc_eq0, jc_eq1, Nat.not_lt_zero, Nat.zero_le, ne_eq, false_or, or_false, true_or, or_true, not_false_eq_true, not_true_eq_false, ↓reduceIte, Option.bind_some, Nat.add_sub_cancel, Nat.add_sub_cancel_left, reduceCtorEq, Option.some.injEq, Prod.mk.injEq, true_and, and_true, decide_true, decide_false, Bool.true_eq_false, Bool.false_eq_true, Bool.not_eq_true, Bool.not_eq_false, hj, h2, h3, hm]); exact rfl)); with_reducible refine bnd rfl ?_)))
      simp (disch := omega) only [jlo, jl0, jl1, jl2, jl3, jl4, jl5, jl9, jl10, jl12, jl16, jl30, jl60, jl63, jl64, jl80, jl100, jl120, jl512, jlM, jlm, j_lt, j_le, j_eq, j_add, j_mul, j_div, j_mod, j_sub, j_m1, j_nelt, j_melt, j_nele, j_mele, j_neeq, j_meeq, j_nat, j_bz0, j_bz1, jc_le0, jc_le1, jc_lt0, jc_lt1, jc_eq0, jc_eq1, Nat.not_lt_zero, Nat.zero_le, ne_eq, false_or, or_false, true_or, or_true, not_false_eq_true, not_true_eq_false, ↓reduceIte, Option.bind_some, Nat.add_sub_cancel, Nat.add_sub_cancel_left, reduceCtorEq, Option.some.injEq, Prod.mk.injEq, true_and, and_true, decide_true, decide_false, Bool.true_eq_false, Bool.false_eq_true, Bool.not_eq_true, Bool.not_eq_false, hm, hj, h2, h3]
    · (repeat (first | (with_reducible refine ifn ?_ ?_; (focus (simp (disch := omega) only [jlo, jl0, jl1, jl2, jl3, jl4, jl5, jl9, jl10, jl12, jl16, jl30, jl60, jl63, jl64, jl80, jl100, jl120, jl512, jlM, jlm, j_lt, j_le, j_eq, j_add, j_mul, j_div, j_mod, j_sub, j_m1, j_nelt, j_melt, j_nele, j_mele, j_neeq, j_meeq, j_nat, j_bz0, j_bz1, jc_le0, jc_le1, jc_lt0, jc_lt1, jc_eq0, jc_eq1, Nat.not_lt_zero, Nat.zero_le, ne_eq, false_or, or_false, true_or, or_true, not_false_eq_true, not_true_eq_false, ↓reduceIte, Option.bind_some, Nat.add_sub_cancel, Nat.add_sub_cancel_left, reduceCtorEq, Option.some.injEq, Prod.mk.injEq, true_and, and_true, decide_true, decide_false, Bool.true_eq_false, Bool.false_eq_true, Bool.not_eq_true, Bool.not_eq_false, hj, h2, h3, hm]; done))) | (with_reducible refine ifp ?_ ?_; (focus (simp (disch := omega) only [jlo, jl0, jl1, jl2, jl3, jl4, jl5, jl9, jl10, jl12, jl16, jl30, jl60, jl63, jl64, jl80, jl100, jl120, jl512, jlM, jlm, j_lt, j_le, j_eq, j_add, j_mul, j_div, j_mod, j_sub, j_m1, j_nelt, j_melt, j_nele, j_mele, j_neeq, j_meeq, j_nat, j_bz0, j_bz1, jc_le0, jc_le1, jc_lt0, jc_lt1, jc_eq0, jc_eq1, Nat.not_lt_zero, Nat.zero_le, ne_eq, false_or, or_false, true_or, or_true, not_false_eq_true, not_true_eq_false, ↓reduceIte, Option.bind_some, Nat.add_sub_cancel, Nat.add_sub_cancel_left, reduceCtorEq, Option.some.injEq, Prod.mk.injEq, true_and, and_true, decide_true, decide_false, Bool.true_eq_false, Bool.false_eq_true, Bool.not_eq_true, Bool.not_eq_false, hj, h2, h3, hm]; done))) | (with_reducible apply bnd1; (focus ((try simp (disch := omega) only [jlo, jl0, jl1, jl2, jl3, jl4, jl5, jl9, jl10, jl12, jl16, jl30, jl60, jl63, jl64, jl80, jl100, jl120, jl512, jlM, jlm, j_lt, j_le, j_eq, j_add, j_mul, j_div, j_mod, j_sub, j_m1, j_nelt, j_melt, j_nele, j_mele, j_neeq, j_meeq, j_nat, j_bz0, j_bz1, jc_le0, jc_le1, jc_lt0, jc_lt1, jc_eq0, jc_eq1, Nat.not_lt_zero, Nat.zero_le, ne_eq, false_or, or_false, true_or, or_true, not_false_eq_true, not_true_eq_false, ↓reduceIte, Option.bind_some, Nat.add_sub_cancel, Nat.add_sub_cancel_left, reduceCtorEq, Option.some.injEq, Prod.mk.injEq, true_and, and_true, decide_true, decide_false, Bool.true_eq_false, Bool.false_eq_true, Bool.not_eq_true, Bool.not_eq_false, hj, h2, h3, hm]); exact rfl)); with_reducible refine bnd rfl ?_)))
      simp (disch := omega) only [jlo, jl0, jl1, jl2, jl3, jl4, jl5, jl9, jl10, jl12, jl16, jl30, jl60, jl63, jl64, jl80, jl100, jl120, jl512, jlM, jlm, j_lt, j_le, j_eq, j_add, j_mul, j_div, j_mod, j_sub, j_m1, j_nelt, j_melt, j_nele, j_mele, j_neeq, j_meeq, j_nat, j_bz0, j_bz1, jc_le0, jc_le1, jc_lt0, jc_lt1, jc_eq0, jc_eq1, Nat.not_lt_zero, Nat.zero_le, ne_eq, false_or, or_false, true_or, or_true, not_false_eq_true, not_true_eq_false, ↓reduceIte, Option.bind_some, Nat.add_sub_cancel, Nat.add_sub_cancel_left, reduceCtorEq, Option.some.injEq, Prod.mk.injEq, true_and, and_true, decide_true, decide_false, Bool.true_eq_false, Bool.false_eq_true, Bool.not_eq_true, Bool.not_eq_false, hm, hj, h2, h3]
  | branch k l r' hl hr' =>
    intro br bl jp ji r i n x hw ht hr hi hn hj
    simp only [sz, wft, Tr] at *
    obtain ⟨h1, h2, a, b, h3, h4, h5, h6⟩ := ht
    have q5 := tr_lt h5
    have q6 := tr_lt h6
    have pl := sz_pos l
    have pr := sz_pos r'
    have he : ∀ w, lp_fm_load_12 fl (w + 1) (te, tk, ta, tb, tn, td) (br, bl) (jp, ji) (jn r) v2 (jn (n + 1)) (jn i) = lp_fm_load_12 fl w (te, tk, ta, tb, tn, td) (upd br (60 * r + i) (jn k), bl) (upd (upd jp n (jn b)) (n + 1) (jn a), ji) (jn r) v2 (jn (n + 1 + 1)) (jn (i + 1)) := by
      intro w
      rw [lp_fm_load_12]
      (repeat (first | (with_reducible refine ifn ?_ ?_; (focus (simp (disch := omega) only [jlo, jl0, jl1, jl2, jl3, jl4, jl5, jl9, jl10, jl12, jl16, jl30, jl60, jl63, jl64, jl80, jl100, jl120, jl512, jlM, jlm, j_lt, j_le, j_eq, j_add, j_mul, j_div, j_mod, j_sub, j_m1, j_nelt, j_melt, j_nele, j_mele, j_neeq, j_meeq, j_nat, j_bz0, j_bz1, jc_le0, jc_le1, jc_lt0, jc_lt1, jc_eq0, jc_eq1, Nat.not_lt_zero, Nat.zero_le, ne_eq, false_or, or_false, true_or, or_true, not_false_eq_true, not_true_eq_false, ↓reduceIte, Option.bind_some, Nat.add_sub_cancel, Nat.add_sub_cancel_left, reduceCtorEq, Option.some.injEq, Prod.mk.injEq, true_and, and_true, decide_true, decide_false, Bool.true_eq_false, Bool.false_eq_true, Bool.not_eq_true, Bool.not_eq_false, hj, h2, h3, h4]; done))) | (with_reducible refine ifp ?_ ?_; (focus (simp (disch := omega) only [jlo, jl0, jl1, jl2, jl3, jl4, jl5, jl9, jl10, jl12, jl16, jl30, jl60, jl63, jl64, jl80, jl100, jl120, jl512, jlM, jlm, j_lt, j_le, j_eq, j_add, j_mul, j_div, j_mod, j_sub, j_m1, j_nelt, j_melt, j_nele, j_mele, j_neeq, j_meeq, j_nat, j_bz0, j_bz1, jc_le0, jc_le1, jc_lt0, jc_lt1, jc_eq0, jc_eq1, Nat.not_lt_zero, Nat.zero_le, ne_eq, false_or, or_false, true_or, or_true, not_false_eq_true, not_true_eq_false, ↓reduceIte, Option.bind_some, Nat.add_sub_cancel, Nat.add_sub_cancel_left, reduceCtorEq, Option.some.injEq, Prod.mk.injEq, true_and, and_true, decide_true, decide_false, Bool.true_eq_false, Bool.false_eq_true, Bool.not_eq_true, Bool.not_eq_false, hj, h2, h3, h4]; done))) | (with_reducible apply bnd1; (focus ((try simp (disch := omega) only [jlo, jl0, jl1, jl2, jl3, jl4, jl5, jl9, jl10, jl12, jl16, jl30, jl60, jl63, jl64, jl80, jl100, jl120, jl512, jlM, jlm, j_lt, j_le, j_eq, j_add, j_mul, j_div, j_mod, j_sub, j_m1, j_nelt, j_melt, j_nele, j_mele, j_neeq, j_meeq, j_nat, j_bz0, j_bz1, jc_le0, jc_le1, jc_lt0, jc_lt1, jc_eq0, jc_eq1, Nat.not_lt_zero, Nat.zero_le, ne_eq, false_or, or_false, true_or, or_true, not_false_eq_true, not_true_eq_false, ↓reduceIte, Option.bind_some, Nat.add_sub_cancel, Nat.add_sub_cancel_left, reduceCtorEq, Option.some.injEq, Prod.mk.injEq, true_and, and_true, decide_true, decide_false, Bool.true_eq_false, Bool.false_eq_true, Bool.not_eq_true, Bool.not_eq_false, hj, h2, h3, h4]); exact rfl)); with_reducible refine bnd rfl ?_)))
      simp (disch := omega) only [jlo, jl0, jl1, jl2, jl3, jl4, jl5, jl9, jl10, jl12, jl16, jl30, jl60, jl63, jl64, jl80, jl100, jl120, jl512, jlM, jlm, j_lt, j_le, j_eq, j_add, j_mul, j_div, j_mod, j_sub, j_m1, j_nelt, j_melt, j_nele, j_mele, j_neeq, j_meeq, j_nat, j_bz0, j_bz1, jc_le0, jc_le1, jc_lt0, jc_lt1, jc_eq0, jc_eq1, Nat.not_lt_zero, Nat.zero_le, ne_eq, false_or, or_false, true_or, or_true, not_false_eq_true, not_true_eq_false, ↓reduceIte, Option.bind_some, Nat.add_sub_cancel, Nat.add_sub_cancel_left, reduceCtorEq, Option.some.injEq, Prod.mk.injEq, true_and, and_true, decide_true, decide_false, Bool.true_eq_false, Bool.false_eq_true, Bool.not_eq_true, Bool.not_eq_false, hj, h2, h3, h4]
    obtain ⟨br1, jp1, e1, s1, k1, f1⟩ := hl (br := upd br (60 * r + i) (jn k)) (bl := bl) (jp := upd (upd jp n (jn b)) (n + 1) (jn a)) (ji := ji) (r := r) (i := i + 1) (n := n + 1) (x := a) hw.2.1 h5 hr (by omega) (by omega) (if_pos rfl)
    obtain ⟨br2, jp2, e2, s2, k2, f2⟩ := hr' (br := br1) (bl := bl) (jp := jp1) (ji := ji) (r := r) (i := i + 1 + sz l) (n := n) (x := b) hw.2.2 h6 hr (by omega) (by omega) (by rw [k1 n (by omega), j_upd, if_neg (by omega), j_upd, if_pos rfl])
    refine ⟨br2, jp2, ?_, ?_, ?_, ?_⟩
    · intro w
      rw [show w + (1 + sz l + sz r') = w + sz r' + sz l + 1 by omega, he, e1, e2, show i + 1 + sz l + sz r' = i + (1 + sz l + sz r') by omega]
    · refine seg_t.mpr ⟨?_, ?_, ?_⟩
      · rw [f2 _ (by omega), f1 _ (by omega), j_upd, if_pos rfl]
      · refine seg_cong (fun j h3 h4 => f2 j ?_) (by rw [show 60 * r + i + 1 = 60 * r + (i + 1) by omega]; exact s1)
        rw [enc_len] at h4
        omega
      · rw [show 60 * r + i + 1 + sz l = 60 * r + (i + 1 + sz l) by omega]
        exact s2
    · intro j h
      rw [k2 j h, k1 j (by omega), j_upd, if_neg (by omega), j_upd, if_neg (by omega)]
    · intro j h
      rw [f2 j (by omega), f1 j (by omega), j_upd, if_neg (by omega)]
theorem q_load {fl : Nat} (hfl : 10000 ≤ fl) {mt : Nat} (hmt : mt ≤ 120) {te : Int32} {tk ta tb tn td : Nat → Int32} {t : tm} {B : cB} {J : cJ} {r x : Nat} (hw : wft t) (ht : Tr mt tk ta tb x t) (hr : r < 96) (h60 : sz t ≤ 60) :
    ∃ B' J', fm_load fl (te, tk, ta, tb, tn, td) B J (jn r) (jn x) = some (B', J') ∧ Row B' r t ∧ ∀ r', r' ≠ r → Sm B B' r' := by
  obtain ⟨br, bl⟩ := B
  obtain ⟨jp, ji⟩ := J
  obtain ⟨br', jp', e, s, -, f⟩ := q_load_t fl hmt (te := te) (tn := tn) (td := td) (v2 := jn x) t (br := br) (bl := bl) (jp := upd jp 0 (jn x)) (ji := ji) (r := r) (i := 0) (n := 0) (x := x) hw ht hr (by omega) (by omega) (if_pos rfl)
  have e := e (fl - 1 - sz t + 1)
  rw [show fl - 1 - sz t + 1 + sz t = fl by omega] at e
  refine ⟨(br', upd bl r (jn (sz t))), (jp', ji), ?_, ⟨if_pos rfl, s⟩, ?_⟩
  · unfold fm_load
    simp (disch := omega) only [jlo, jl0, jl1, jl2, jl3, jl4, jl5, jl9, jl10, jl12, jl16, jl30, jl60, jl63, jl64, jl80, jl100, jl120, jl512, jlM, jlm, j_lt, j_le, j_eq, j_add, j_mul, j_div, j_mod, j_sub, j_m1, j_nelt, j_melt, j_nele, j_mele, j_neeq, j_meeq, j_nat, j_bz0, j_bz1, jc_le0, jc_le1, jc_lt0, jc_lt1, jc_eq0, jc_eq1, Nat.not_lt_zero, Nat.zero_le, ne_eq, false_or, or_false, true_or, or_true, not_false_eq_true, not_true_eq_false, ↓reduceIte, Option.bind_some, Nat.add_sub_cancel, Nat.add_sub_cancel_left, reduceCtorEq, Option.some.injEq, Prod.mk.injEq, true_and, and_true, decide_true, decide_false, Bool.true_eq_false, Bool.false_eq_true, Bool.not_eq_true, Bool.not_eq_false]
    rw [show (0 : Nat) + 1 = 1 from rfl, Nat.zero_add] at e
    rw [e, lp_fm_load_12]
    simp (disch := omega) only [jlo, jl0, jl1, jl2, jl3, jl4, jl5, jl9, jl10, jl12, jl16, jl30, jl60, jl63, jl64, jl80, jl100, jl120, jl512, jlM, jlm, j_lt, j_le, j_eq, j_add, j_mul, j_div, j_mod, j_sub, j_m1, j_nelt, j_melt, j_nele, j_mele, j_neeq, j_meeq, j_nat, j_bz0, j_bz1, jc_le0, jc_le1, jc_lt0, jc_lt1, jc_eq0, jc_eq1, Nat.not_lt_zero, Nat.zero_le, ne_eq, false_or, or_false, true_or, or_true, not_false_eq_true, not_true_eq_false, ↓reduceIte, Option.bind_some, Nat.add_sub_cancel, Nat.add_sub_cancel_left, reduceCtorEq, Option.some.injEq, Prod.mk.injEq, true_and, and_true, decide_true, decide_false, Bool.true_eq_false, Bool.false_eq_true, Bool.not_eq_true, Bool.not_eq_false]
  · intro r' h
    exact ⟨if_neg h, fun j hj => f _ (by omega)⟩
theorem kt_le (t : tm) : kt t + 1 ≤ 4 * sz t := by
  induction t with
  | leaf m => exact Nat.le_of_ble_eq_true rfl
  | branch k a b ha hb =>
    simp only [kt, sz]
    omega
/-- the type of what lies in row 63 -/
theorem q_toType {fl : Nat} (hfl : 10000 ≤ fl) {q f n : Nat} {G : cG} {ct : Nat → tm} {bo : Nat → Option tm} (hq : q ≤ 16) (hf30 : f ≤ 30) {t : tm} {B : cB} {O : cO} {J : cJ} {Y : cY} {Z : cZ} (hk : okt 9 q 10 t) (h60 : sz t ≤ 60) (hd : dp t ≤ 12) (hrow : Row B 63 t) (hb : Bod q G B bo) (hty : Typ q B ct) (hn : n ≤ f) :
    match ty ct bo t [] n with
      | .inl e => (e = 2 ∨ e = 3) ∧ ∃ B' O' J' Z' Y' u', fm_toType fl G B O J (jn f, jn (f - n), jn 0) Y Z (jn 63) = some (B', O', J', (jn f, u', jn e), Y', Z') ∧ ∀ ρ, (ρ = 2 ∨ 64 ≤ ρ) → Sm B B' ρ
      | .inr (T, n') => n' ≤ n ∧ okt 10 q 10 T ∧ sz T ≤ 60 ∧ dp T ≤ 12 ∧ ∃ B' O' J' Z' Y', fm_toType fl G B O J (jn f, jn (f - n), jn 0) Y Z (jn 63) = some (B', O', J', (jn f, jn (f - n'), jn 0), Y', Z') ∧ Row B' 63 T ∧ ∀ ρ, (ρ = 2 ∨ 64 ≤ ρ) → Sm B B' ρ := by
  obtain ⟨yo, ya, ys, yl, yt, yk, yc⟩ := Y
  have e0 : fm_toType fl G B O J (jn f, jn (f - n), jn 0) (yo, ya, ys, yl, yt, yk, yc) Z (jn 63) = lp_fm_toType_28 fl fl G B O J (jn f, jn (f - n), jn 0) (jn (0 + 1), upd ya 0 (jn 63), upd ys 0 (jn 0), yl, jn 4, jn ([] : List tm).length, yc) Z (jn 63) := by
    unfold fm_toType fm_ask
    simp (disch := omega) only [jlo, jl0, jl1, jl2, jl3, jl4, jl5, jl9, jl10, jl12, jl16, jl30, jl60, jl63, jl64, jl80, jl100, jl120, jl512, jlM, jlm, j_lt, j_le, j_eq, j_add, j_mul, j_div, j_mod, j_sub, j_m1, j_nelt, j_melt, j_nele, j_mele, j_neeq, j_meeq, j_nat, j_bz0, j_bz1, jc_le0, jc_le1, jc_lt0, jc_lt1, jc_eq0, jc_eq1, Nat.not_lt_zero, Nat.zero_le, ne_eq, false_or, or_false, true_or, or_true, not_false_eq_true, not_true_eq_false, ↓reduceIte, Option.bind_some, Nat.add_sub_cancel, Nat.add_sub_cancel_left, reduceCtorEq, Option.some.injEq, Prod.mk.injEq, true_and, and_true, decide_true, decide_false, Bool.true_eq_false, Bool.false_eq_true, Bool.not_eq_true, Bool.not_eq_false]
    rfl
  have h := q_ty hfl (G := G) hq hf30 t (Γ := []) (n := n) (B := B) (O := O) (J := J) (Z := Z) (ya := upd ya 0 (jn 63)) (ys := upd ys 0 (jn 0)) (yl := yl) (yc := yc) (o := 0) (tp := 4) (r := 63) (v1 := jn 63) hk h60 hd hrow (.inl rfl) (Nat.le_refl 4) (by omega) (by omega) trivial hb hty hn (if_pos rfl) (if_pos rfl)
  have hkl := kt_le t
  rcases ht : ty ct bo t [] n with e | ⟨T, n'⟩
  · rw [ht] at h
    obtain ⟨he, B', O', J', Z', Y', u', e1, sm⟩ := h
    refine ⟨he, B', O', J', Z', Y', u', ?_, sm⟩
    have := e1 (fl - kt t - 1)
    rw [show fl - kt t - 1 + kt t + 1 = fl by omega] at this
    rw [e0, this]
  · rw [ht] at h
    obtain ⟨h1, h2, h3, h4, B', O', J', Z', ya', ys', yl', yc', e1, r1, kq, -, -⟩ := h
    refine ⟨h1, h2, h3, h4, B', O', J', Z', (jn 0, ya', ys', yl', jn 4, jn 0, yc'), ?_, r1, fun ρ h => kq ρ (by omega) (by omega) (by omega) (by omega) (by omega)⟩
    have := e1 (fl - kt t - 1 + 1)
    rw [show fl - kt t - 1 + 1 + kt t = fl by omega] at this
    rw [e0, this, lp_fm_toType_28]
    simp (disch := omega) only [jlo, jl0, jl1, jl2, jl3, jl4, jl5, jl9, jl10, jl12, jl16, jl30, jl60, jl63, jl64, jl80, jl100, jl120, jl512, jlM, jlm, j_lt, j_le, j_eq, j_add, j_mul, j_div, j_mod, j_sub, j_m1, j_nelt, j_melt, j_nele, j_mele, j_neeq, j_meeq, j_nat, j_bz0, j_bz1, jc_le0, jc_le1, jc_lt0, jc_lt1, jc_eq0, jc_eq1, Nat.not_lt_zero, Nat.zero_le, ne_eq, false_or, or_false, true_or, or_true, not_false_eq_true, not_true_eq_false, ↓reduceIte, Option.bind_some, Nat.add_sub_cancel, Nat.add_sub_cancel_left, reduceCtorEq, Option.some.injEq, Prod.mk.injEq, true_and, and_true, decide_true, decide_false, Bool.true_eq_false, Bool.false_eq_true, Bool.not_eq_true, Bool.not_eq_false, List.length_nil]
