def ap : tm → Nat
  | .leaf _ => 0
  | .branch k l _ => if k = 4 then ap l + 1 else 0
def hm : tm → Nat
  | .leaf m => m
  | .branch k l _ => if k = 4 then hm l else k
theorem rd_app {bo : Nat → Option tm} {l r : tm} : rd bo (.branch 4 l r) = (match fb l with
      | some b => some (sbs r 0 b)
      | none => (rd bo l).map fun l' => .branch 4 l' r) := by
  rw [rd, if_pos rfl]
  rfl
theorem fb_some {l b : tm} (h : fb l = some b) : ∃ a, l = .branch 3 a b := by
  cases l with
  | leaf m => cases h
  | branch k a b' =>
    simp only [fb] at h
    split at h
    · rename_i e
      cases h
      exact ⟨a, by rw [e]⟩
    · cases h
theorem fb_none {l : tm} (h : hm l ≠ 3 ∨ 0 < ap l) : fb l = none := by
  cases l with
  | leaf m => rfl
  | branch k a b' =>
    simp only [fb]
    split
    · rename_i e
      subst e
      rcases h with h | h
      · exact absurd rfl h
      · exact absurd h (Nat.lt_irrefl 0)
    · rfl
theorem ap_sz (t : tm) : ap t < sz t := by
  induction t with
  | leaf m => exact Nat.zero_lt_one
  | branch k l r hl hr =>
    simp only [ap, sz]
    split <;> omega
/-- the head of a row -/
theorem enc_head (t : tm) : ∃ rest, enc t = List.replicate (ap t) 4 ++ hm t :: rest := by
  induction t with
  | leaf m => exact ⟨[], rfl⟩
  | branch k l r hl hr =>
    by_cases hk : k = 4
    · obtain ⟨rest, h⟩ := hl
      refine ⟨rest ++ enc r, ?_⟩
      simp only [enc, ap, hm, hk, if_pos rfl, h, List.replicate_succ, List.cons_append, List.append_assoc]
      rfl
    · refine ⟨enc l ++ enc r, ?_⟩
      simp only [enc, ap, hm, if_neg hk]
      rfl
theorem rd_bodies {bo : Nat → Option tm} {t b : tm} (hw : wft t) (h5 : hm t % 10 = 5) (hb : bo (hm t / 10) = some b) : ∃ t' rest, rd bo t = some t' ∧ enc t = List.replicate (ap t) 4 ++ hm t :: rest ∧ enc t' = List.replicate (ap t) 4 ++ (enc b ++ rest) := by
  induction t with
  | leaf m =>
    refine ⟨b, [], ?_, rfl, ?_⟩
    · simp only [rd, hm] at *
      rw [if_pos h5, hb]
    · rw [List.append_nil]
      rfl
  | branch k l r hl hr =>
    by_cases hk : k = 4
    · subst hk
      simp only [hm, if_pos, ap] at *
      obtain ⟨t', rest, h1, h2, h3⟩ := hl hw.2.1 h5 hb
      refine ⟨.branch 4 t' r, rest ++ enc r, ?_, ?_, ?_⟩
      · rw [rd_app, fb_none (.inl (by omega)), h1]
        rfl
      · simp only [enc, h2, List.replicate_succ, List.cons_append, List.append_assoc]
      · simp only [enc, h3, List.replicate_succ, List.cons_append, List.append_assoc]
    · simp only [hm, if_neg hk] at h5
      have := hw.1
      omega
theorem rd_beta {bo : Nat → Option tm} (t : tm) : wft t → hm t = 3 → ∀ n, ap t = n + 1 → ∃ t' a b x rest, rd bo t = some t' ∧ wft a ∧ wft b ∧ wft x ∧ enc t = List.replicate n 4 ++ (4 :: 3 :: (enc a ++ (enc b ++ (enc x ++ rest)))) ∧ enc t' = List.replicate n 4 ++ (enc (sbs x 0 b) ++ rest) := by
  induction t with
  | leaf m =>
    intro hw h3 n hn
    cases hn
  | branch k l r hl hr =>
    intro hw h3 n hn
    by_cases hk : k = 4
    · subst hk
      simp only [hm, if_pos, ap, Nat.add_right_cancel_iff] at *
      cases n with
      | zero =>
        cases l with
        | leaf m =>
          simp only [hm, wft] at *
          omega
        | branch k' a b =>
          by_cases hk' : k' = 4
          · subst hk'
            simp only [ap, if_pos] at hn
            omega
          · simp only [hm, if_neg hk'] at h3
            subst h3
            refine ⟨sbs r 0 b, a, b, r, [], rfl, hw.2.1.2.1, hw.2.1.2.2, hw.2.2, ?_, ?_⟩
            · simp only [enc, List.replicate_zero, List.nil_append, List.append_nil, List.cons_append, List.append_assoc]
            · simp only [List.replicate_zero, List.nil_append, List.append_nil]
      | succ n =>
        obtain ⟨t', a, b, x, rest, h1, ha, hb, hx, h2, h4⟩ := hl hw.2.1 h3 n hn
        refine ⟨.branch 4 t' r, a, b, x, rest ++ enc r, ?_, ha, hb, hx, ?_, ?_⟩
        · rw [rd_app, fb_none (.inr (by omega)), h1]
          rfl
        · simp only [enc, h2, List.replicate_succ, List.cons_append, List.append_assoc]
        · simp only [enc, h4, List.replicate_succ, List.cons_append, List.append_assoc]
    · simp only [ap, if_neg hk] at hn
      cases hn
theorem rd_none {bo : Nat → Option tm} (t : tm) (hw : wft t) (h1 : ¬ (hm t = 3 ∧ 0 < ap t)) (h2 : hm t % 10 = 5 → bo (hm t / 10) = none) : rd bo t = none := by
  induction t with
  | leaf m =>
    simp only [rd, hm] at *
    split
    · rename_i h
      exact h2 h
    · rfl
  | branch k l r hl hr =>
    by_cases hk : k = 4
    · subst hk
      simp only [hm, ap, if_pos] at h1 h2
      rw [rd_app, fb_none (.inl (fun h => h1 ⟨h, by omega⟩)), hl hw.2.1 (fun h => h1 ⟨h.1, by omega⟩) h2]
      rfl
    · rw [rd, if_neg hk]
def hf (bo : Nat → Option tm) : Nat → tm → Option (tm × Nat)
  | 0, t => match rd bo t with
    | none => some (t, 0)
    | some _ => none
  | n + 1, t => match rd bo t with
    | none => some (t, n + 1)
    | some t' => if sz t' ≤ 60 ∧ dp t' ≤ 12 then hf bo n t' else none
/-- the bodies, in the rows -/
def Bod (q : Nat) (G : cG) (B : cB) (bo : Nat → Option tm) : Prop := ∀ c, c < q → c < 16 ∧ match bo c with
  | some t => G.2 c = jn 1 ∧ Row B (80 + c) t ∧ sz t ≤ 60 ∧ dp t ≤ 12 ∧ okt 10 q 10 t
  | none => G.2 c = jn 0
theorem bod_sm {q : Nat} {G : cG} {B B' : cB} {bo : Nat → Option tm} (h : Bod q G B bo) (hs : ∀ r, 80 ≤ r → r < 96 → Sm B B' r) : Bod q G B' bo := by
  intro c hc
  have h1 := h c hc
  refine ⟨h1.1, ?_⟩
  have h2 := h1.2
  split
  · rename_i t e
    rw [e] at h2
    exact ⟨h2.1, row_sm h2.2.2.1 (hs _ (by omega) (by omega)) h2.2.1, h2.2.2⟩
  · rename_i e
    rw [e] at h2
    exact h2
theorem okt_hm {u q : Nat} (t : tm) : ∀ {c}, okt u q c t → hm t % 10 = 5 → hm t / 10 < q := by
  induction t with
  | leaf m =>
    intro c h h5
    simp only [okt, hm] at *
    omega
  | branch k l r hl hr =>
    intro c h h5
    by_cases hk : k = 4
    · simp only [hm, if_pos hk] at *
      exact hl h.2.1 h5
    · simp only [hm, if_neg hk] at *
      have := h.1
      omega
theorem okt_rd {u q c : Nat} {bo : Nat → Option tm} (hc : 10 ≤ c) (hbo : ∀ i b, i < q → bo i = some b → okt u q 10 b) (t : tm) : ∀ {t'}, okt u q c t → rd bo t = some t' → okt u q c t' := by
  induction t with
  | leaf m =>
    intro t' h e
    simp only [rd] at e
    split at e
    · simp only [okt] at h
      exact okt_mono (Nat.le_refl _) (Nat.le_refl _) _ hc (hbo _ _ (by omega) e)
    · cases e
  | branch k l r hl hr =>
    intro t' h e
    by_cases hk : k = 4
    · subst hk
      rw [rd_app] at e
      split at e
      · rename_i b hfb
        obtain ⟨a, rfl⟩ := fb_some hfb
        cases e
        have h2 := h.2.2
        rw [show bi 4 = 0 from rfl] at h2
        exact okt_sbs b (Nat.zero_le _) h2 h.2.1.2.2
      · rcases hx : rd bo l with _ | l'
        · rw [hx] at e
          cases e
        · rw [hx] at e
          cases e
          exact ⟨h.1, hl h.2.1 hx, h.2.2⟩
    · rw [rd, if_neg hk] at e
      cases e
theorem dp_sbs {x : tm} (t : tm) : ∀ {b : Nat}, dp (sbs x b t) ≤ dp t + dp x := by
  induction t with
  | leaf m =>
    intro b
    have := dp_pos x
    simp only [sbs]
    split
    · split
      · simp only [dp]; omega
      · split
        · rw [(sz_shf x).2]; omega
        · simp only [dp]; omega
    · simp only [dp]; omega
  | branch k l r hl hr =>
    intro b
    have h1 := hl (b := b)
    have h2 := hr (b := b + bi k)
    simp only [sbs, dp]
    change 1 + max _ _ ≤ 1 + max _ _ + _
    omega
theorem dp_rd {u q c : Nat} {bo : Nat → Option tm} (hbo : ∀ i b, i < q → bo i = some b → dp b ≤ 12) (t : tm) : ∀ {t'}, okt u q c t → rd bo t = some t' → dp t' ≤ 2 * dp t + 12 := by
  induction t with
  | leaf m =>
    intro t' h e
    simp only [rd] at e
    split at e
    · simp only [okt] at h
      have := hbo _ _ (by omega) e
      omega
    · cases e
  | branch k l r hl hr =>
    intro t' h e
    by_cases hk : k = 4
    · subst hk
      rw [rd_app] at e
      split at e
      · rename_i b hfb
        obtain ⟨a, rfl⟩ := fb_some hfb
        cases e
        have h1 := dp_sbs (x := r) b (b := 0)
        simp only [dp]
        change _ ≤ 2 * (1 + max (1 + max (dp a) (dp b)) (dp r)) + 12
        omega
      · rcases hx : rd bo l with _ | l'
        · rw [hx] at e
          cases e
        · rw [hx] at e
          cases e
          have h1 := hl h.2.1 hx
          simp only [dp]
          change 1 + max (dp l') (dp r) ≤ 2 * (1 + max (dp l) (dp r)) + 12
          omega
    · rw [rd, if_neg hk] at e
      cases e
theorem q_19 {fl : Nat} {br bl : Nat → Int32} {O : cO} {J : cJ} {V : cV} {G : cG} {r m : Nat} {v2 : Int32} (hm5 : m < 10000) (hm4 : m % 10 ≠ 4) (rest : List Nat) (n : Nat) : ∀ {i w : Nat}, 60 * r + i + n < 5760 → Seg br (60 * r + i) (List.replicate n 4 ++ m :: rest) →
    lp_fm_toHead_19 fl (w + n + 1) G (br, bl) O J V (jn r) v2 (jn i) = some ((br, bl), O, J, V, jn r, v2, jn (i + n)) := by
  induction n with
  | zero =>
    intro i w hb hs
    have h1 : br (60 * r + i) = jn m := hs.1
    rw [lp_fm_toHead_19]
    simp (disch := omega) only [jlo, jl0, jl1, jl2, jl3, jl4, jl5, jl9, jl10, jl12, jl16, jl30, jl60, jl63, jl64, jl80, jl100, jl120, jl512, jlM, jlm, j_lt, j_le, j_eq, j_add, j_mul, j_div, j_mod, j_sub, j_m1, j_nelt, j_melt, j_nele, j_mele, j_neeq, j_meeq, j_nat, j_bz0, j_bz1, jc_le0, jc_le1, jc_lt0, jc_lt1, jc_eq0, jc_eq1, Nat.not_lt_zero, Nat.zero_le, ne_eq, false_or, or_false, true_or, or_true, not_false_eq_true, not_true_eq_false, ↓reduceIte, Option.bind_some, Nat.add_sub_cancel, Nat.add_sub_cancel_left, reduceCtorEq, Option.some.injEq, Prod.mk.injEq, true_and, and_true, decide_true, decide_false, Bool.true_eq_false, Bool.false_eq_true, Bool.not_eq_true, Bool.not_eq_false, q_at, h1, q_kind]
  | succ n ih =>
    intro i w hb hs
    have h1 : br (60 * r + i) = jn 4 := hs.1
    rw [show w + (n + 1) + 1 = w + n + 1 + 1 by omega, lp_fm_toHead_19]
    simp (disch := omega) only [jlo, jl0, jl1, jl2, jl3, jl4, jl5, jl9, jl10, jl12, jl16, jl30, jl60, jl63, jl64, jl80, jl100, jl120, jl512, jlM, jlm, j_lt, j_le, j_eq, j_add, j_mul, j_div, j_mod, j_sub, j_m1, j_nelt, j_melt, j_nele, j_mele, j_neeq, j_meeq, j_nat, j_bz0, j_bz1, jc_le0, jc_le1, jc_lt0, jc_lt1, jc_eq0, jc_eq1, Nat.not_lt_zero, Nat.zero_le, ne_eq, false_or, or_false, true_or, or_true, not_false_eq_true, not_true_eq_false, ↓reduceIte, Option.bind_some, Nat.add_sub_cancel, Nat.add_sub_cancel_left, reduceCtorEq, Option.some.injEq, Prod.mk.injEq, true_and, and_true, decide_true, decide_false, Bool.true_eq_false, Bool.false_eq_true, Bool.not_eq_true, Bool.not_eq_false, q_at, h1, q_kind, Nat.reduceMod]
    rw [ih (by omega) (by rw [show 60 * r + (i + 1) = 60 * r + i + 1 by omega]; exact hs.2)]
    rw [show i + 1 + n = i + (n + 1) by omega]
/-- one reduction, in the rows -/
theorem q_step {fl : Nat} (hfl : 10000 ≤ fl) {q : Nat} {G : cG} {B : cB} {O : cO} {J : cJ} {bo : Nat → Option tm} {r f u : Nat} {t : tm} {c : Nat} (hc : 10 ≤ c) (hc2 : c < 900) (hq : q ≤ 16) (hb : Bod q G B bo) (hr : r < 80) (hk : okt 10 q c t) (h60 : sz t ≤ 60) (hdt : dp t ≤ 12) (hrow : Row B r t) (hu : u ≤ f) (hf : f ≤ 30) :
    (rd bo t = none → ∃ O' J', ∀ w, lp_fm_toHead_13 fl (w + 1) G B O J (jn f, jn u, jn 0) (jn r) (jn 1) = some (B, O', J', (jn f, jn u, jn 0))) ∧
    (∀ t', rd bo t = some t' → (u = f → ∃ O' J', ∀ w, lp_fm_toHead_13 fl (w + 1) G B O J (jn f, jn u, jn 0) (jn r) (jn 1) = some (B, O', J', (jn f, jn u, jn 3))) ∧
      (u < f → ∃ B' O' J', (∀ r', r' ≠ r → Sm B B' r') ∧ ((sz t' ≤ 60 ∧ dp t' ≤ 12 ∧ Row B' r t' ∧ ∀ w, lp_fm_toHead_13 fl (w + 1) G B O J (jn f, jn u, jn 0) (jn r) (jn 1) = lp_fm_toHead_13 fl w G B' O' J' (jn f, jn (u + 1), jn 0) (jn r) (jn 1)) ∨
        (¬ (sz t' ≤ 60 ∧ dp t' ≤ 12) ∧ ∀ w, lp_fm_toHead_13 fl (w + 1) G B O J (jn f, jn u, jn 0) (jn r) (jn 1) = some (B', O', J', (jn f, jn u, jn 3)))))) := by
  have hw := okt_wft (by omega) (by omega) t hk (by omega)
  obtain ⟨br, bl⟩ := B
  obtain ⟨jp, ji⟩ := J
  obtain ⟨gc, gb⟩ := G
  obtain ⟨rest, he⟩ := enc_head t
  have hap := ap_sz t
  have hs := hrow.2
  have hz : bl r = jn (sz t) := hrow.1
  have hlen := enc_len t
  have hs0 := hs
  rw [he] at hs0
  have hmm : hm t < 10000 ∧ hm t % 10 ≠ 4 ∧ (hm t % 10 = 3 → hm t = 3) := by
    clear hs0 hs hrow hap he hz hlen
    induction t with
    | leaf m => simp only [wft, hm] at *; omega
    | branch k l r' hl hr' =>
      simp only [hm]
      split
      · rename_i e
        have hdl : dp l ≤ Nat.max (dp l) (dp r') := Nat.le_max_left _ _
        simp only [sz, dp] at h60 hdt
        exact hl hk.2.1 (by omega) (by omega) hw.2.1
      · have := hw.1
        omega
  have h19 := q_19 (fl := fl) (G := (gc, gb)) (bl := bl) (O := O) (J := (jp, ji)) (V := (jn f, jn u, jn 0)) (r := r) (v2 := jn 1) hmm.1 hmm.2.1 rest (ap t) (i := 0) (w := fl - 1 - ap t) (by omega) hs0
  rw [show fl - 1 - ap t + ap t + 1 = fl by omega, Nat.zero_add] at h19
  have hm1 : br (60 * r + ap t) = jn (hm t) := by
    have := (seg_app.mp hs0).2.1
    rwa [List.length_replicate] at this
  have h3 := hmm.1
  by_cases c3 : hm t % 10 = 3
  · have e3 : hm t = 3 := hmm.2.2 c3
    rw [e3] at hm1
    rcases hn : ap t with _ | n
    · have hnone : rd bo t = none := rd_none t hw (by omega) (by omega)
      rw [hn] at h19 hm1
      refine ⟨fun _ => ⟨O, (jp, ji), fun w => ?_⟩, fun t' h => by rw [hnone] at h; cases h⟩
      rw [lp_fm_toHead_13]
      (repeat (first | (with_reducible refine ifn ?_ ?_; (focus (simp (disch := omega) only [jlo, jl0, jl1, jl2, jl3, jl4, jl5, jl9, jl10, jl12, jl16, jl30, jl60, jl63, jl64, jl80, jl100, jl120, jl512, jlM, jlm, j_lt, j_le, j_eq, j_add, j_mul, j_div, j_mod, j_sub, j_m1, j_nelt, j_melt, j_nele, j_mele, j_neeq, j_meeq, j_nat, j_bz0, j_bz1, jc_le0, jc_le1, jc_lt0, jc_lt1, jc_eq0, jc_eq1, Nat.not_lt_zero, Nat.zero_le, ne_eq, false_or, or_false, true_or, or_true, not_false_eq_true, not_true_eq_false, ↓reduceIte, Option.bind_some, Nat.add_sub_cancel, Nat.add_sub_cancel_left, reduceCtorEq, Option.some.injEq, Prod.mk.injEq, true_and, and_true, decide_true, decide_false, Bool.true_eq_false, Bool.false_eq_true, Bool.not_eq_true, Bool.not_eq_false, h19, q_at, hm1, q_kind, Nat.reduceMod]; done))) | (with_reducible refine ifp ?_ ?_; (focus (simp (disch := omega) only [jlo, jl0, jl1, jl2, jl3, jl4, jl5, jl9, jl10, jl12, jl16, jl30, jl60, jl63, jl64, jl80, jl100, jl120, jl512, jlM, jlm, j_lt, j_le, j_eq, j_add, j_mul, j_div, j_mod, j_sub, j_m1, j_nelt, j_melt, j_nele, j_mele, j_neeq, j_meeq, j_nat, j_bz0, j_bz1, jc_le0, jc_le1, jc_lt0, jc_lt1, jc_eq0, jc_eq1, Nat.not_lt_zero, Nat.zero_le, ne_eq, false_or, or_false, true_or, or_true, not_false_eq_true, not_true_eq_false, ↓reduceIte, Option.bind_some, Nat.add_sub_cancel, Nat.add_sub_cancel_left, reduceCtorEq, Option.some.injEq, Prod.mk.injEq, true_and, and_true, decide_true, decide_false, Bool.true_eq_false, Bool.false_eq_true, Bool.not_eq_true, Bool.not_eq_false, h19, q_at, hm1, q_kind, Nat.reduceMod]; done))) | (with_reducible apply bnd1; (focus ((try simp (disch := omega) only [jlo, jl0, jl1, jl2, jl3, jl4, jl5, jl9, jl10, jl12, jl16, jl30, jl60, jl63, jl64, jl80, jl100, jl120, jl512, jlM, jlm, j_lt, j_le, j_eq, j_add, j_mul, j_div, j_mod, j_sub, j_m1, j_nelt, j_melt, j_nele, j_mele, j_neeq, j_meeq, j_nat, j_bz0, j_bz1, jc_le0, jc_le1, jc_lt0, jc_lt1, jc_eq0, jc_eq1, Nat.not_lt_zero, Nat.zero_le, ne_eq, false_or, or_false, true_or, or_true, not_false_eq_true, not_true_eq_false, ↓reduceIte, Option.bind_some, Nat.add_sub_cancel, Nat.add_sub_cancel_left, reduceCtorEq, Option.some.injEq, Prod.mk.injEq, true_and, and_true, decide_true, decide_false, Bool.true_eq_false, Bool.false_eq_true, Bool.not_eq_true, Bool.not_eq_false, h19, q_at, hm1, q_kind, Nat.reduceMod]); exact rfl)); with_reducible refine bnd rfl ?_)))
      rfl
    · obtain ⟨t', a, b, x, rest, h1, ha, hb', hx, h2, h4⟩ := rd_beta (bo := bo) t hw e3 n hn
      rw [hn] at h19 hm1
      refine ⟨fun h => (by rw [h1] at h; cases h), fun t'' h => ?_⟩
      rw [h1] at h
      cases h
      refine ⟨fun huf => ⟨O, (jp, ji), fun w => ?_⟩, fun huf => ?_⟩
      · subst huf
        rw [lp_fm_toHead_13]
        (repeat (first | (with_reducible refine ifn ?_ ?_; (focus (simp (disch := omega) only [jlo, jl0, jl1, jl2, jl3, jl4, jl5, jl9, jl10, jl12, jl16, jl30, jl60, jl63, jl64, jl80, jl100, jl120, jl512, jlM, jlm, j_lt, j_le, j_eq, j_add, j_mul, j_div, j_mod, j_sub, j_m1, j_nelt, j_melt, j_nele, j_mele, j_neeq, j_meeq, j_nat, j_bz0, j_bz1, jc_le0, jc_le1, jc_lt0, jc_lt1, jc_eq0, jc_eq1, Nat.not_lt_zero, Nat.zero_le, ne_eq, false_or, or_false, true_or, or_true, not_false_eq_true, not_true_eq_false, ↓reduceIte, Option.bind_some, Nat.add_sub_cancel, Nat.add_sub_cancel_left, reduceCtorEq, Option.some.injEq, Prod.mk.injEq, true_and, and_true, decide_true, decide_false, Bool.true_eq_false, Bool.false_eq_true, Bool.not_eq_true, Bool.not_eq_false, h19, q_at, hm1, q_kind, Nat.reduceMod]; done))) | (with_reducible refine ifp ?_ ?_; (focus (simp (disch := omega) only [jlo, jl0, jl1, jl2, jl3, jl4, jl5, jl9, jl10, jl12, jl16, jl30, jl60, jl63, jl64, jl80, jl100, jl120, jl512, jlM, jlm, j_lt, j_le, j_eq, j_add, j_mul, j_div, j_mod, j_sub, j_m1, j_nelt, j_melt, j_nele, j_mele, j_neeq, j_meeq, j_nat, j_bz0, j_bz1, jc_le0, jc_le1, jc_lt0, jc_lt1, jc_eq0, jc_eq1, Nat.not_lt_zero, Nat.zero_le, ne_eq, false_or, or_false, true_or, or_true, not_false_eq_true, not_true_eq_false, ↓reduceIte, Option.bind_some, Nat.add_sub_cancel, Nat.add_sub_cancel_left, reduceCtorEq, Option.some.injEq, Prod.mk.injEq, true_and, and_true, decide_true, decide_false, Bool.true_eq_false, Bool.false_eq_true, Bool.not_eq_true, Bool.not_eq_false, h19, q_at, hm1, q_kind, Nat.reduceMod]; done))) | (with_reducible apply bnd1; (focus ((try simp (disch := omega) only [jlo, jl0, jl1, jl2, jl3, jl4, jl5, jl9, jl10, jl12, jl16, jl30, jl60, jl63, jl64, jl80, jl100, jl120, jl512, jlM, jlm, j_lt, j_le, j_eq, j_add, j_mul, j_div, j_mod, j_sub, j_m1, j_nelt, j_melt, j_nele, j_mele, j_neeq, j_meeq, j_nat, j_bz0, j_bz1, jc_le0, jc_le1, jc_lt0, jc_lt1, jc_eq0, jc_eq1, Nat.not_lt_zero, Nat.zero_le, ne_eq, false_or, or_false, true_or, or_true, not_false_eq_true, not_true_eq_false, ↓reduceIte, Option.bind_some, Nat.add_sub_cancel, Nat.add_sub_cancel_left, reduceCtorEq, Option.some.injEq, Prod.mk.injEq, true_and, and_true, decide_true, decide_false, Bool.true_eq_false, Bool.false_eq_true, Bool.not_eq_true, Bool.not_eq_false, h19, q_at, hm1, q_kind, Nat.reduceMod]); exact rfl)); with_reducible refine bnd rfl ?_)))
        rfl
      · have hl2 := hlen
        rw [h2] at hs hl2
        simp only [List.length_append, List.length_cons, List.length_replicate, enc_len] at hl2
        obtain ⟨s1, s2⟩ := seg_app.mp hs
        rw [List.length_replicate] at s2
        have s3 := seg_app.mp s2.2.2
        have s4 := seg_app.mp s3.2
        have s5 := seg_app.mp s4.2
        simp only [enc_len] at s3 s4 s5
        have pa := sz_pos a
        have pb := sz_pos b
        have px := sz_pos x
        have t1 : fm_endOf fl (br, bl) (jn r) (jn (n + 2)) = some (jn (n + 2 + sz a)) := q_endOf hfl ha (by rw [show 60 * r + (n + 2) = 60 * r + n + 1 + 1 by omega]; exact s3.1) (by omega)
        have t2 : fm_endOf fl (br, bl) (jn r) (jn (n + 2 + sz a)) = some (jn (n + 2 + sz a + sz b)) := q_endOf hfl hb' (by rw [show 60 * r + (n + 2 + sz a) = 60 * r + n + 1 + 1 + sz a by omega]; exact s4.1) (by omega)
        have t3 : fm_endOf fl (br, bl) (jn r) (jn (n + 2 + sz a + sz b)) = some (jn (n + 2 + sz a + sz b + sz x)) := q_endOf hfl hx (by rw [show 60 * r + (n + 2 + sz a + sz b) = 60 * r + n + 1 + 1 + sz a + sz b by omega]; exact s5.1) (by omega)
        obtain ⟨O1, e1, o1⟩ := q_begin O
        obtain ⟨O2, e2, o2⟩ := q_putAll hfl (r := r) (i := 0) (e := n) (B := (br, bl)) (ys := List.replicate n 4) (by rw [List.length_replicate]; omega) o1 (by rw [List.length_replicate]; omega) s1
        rw [List.nil_append] at o2
        obtain ⟨O3, J3, e3', o3⟩ := q_putFor hfl (x := x) (t := b) (B := (br, bl)) (O := O2) (jp := jp) (ji := ji) (xs := List.replicate n 4) (r := r) (i := n + 2 + sz a) (e := n + 2 + sz a + sz b) (rx := r) (xb := n + 2 + sz a + sz b) (xe := n + 2 + sz a + sz b + sz x) rfl rfl hx hb' o2 (by omega) (by omega) (by omega) (by omega)
          (by rw [show 60 * r + (n + 2 + sz a + sz b) = 60 * r + n + 1 + 1 + sz a + sz b by omega]; exact s5.1) (by rw [show 60 * r + (n + 2 + sz a) = 60 * r + n + 1 + 1 + sz a by omega]; exact s4.1) (by rw [List.length_replicate]; omega)
        obtain ⟨O4, e4, o4⟩ := q_putAll hfl (r := r) (i := n + 2 + sz a + sz b + sz x) (e := sz t) (B := (br, bl)) (O := O3) (ys := rest) (by omega) o3 (by omega) (by rw [show 60 * r + (n + 2 + sz a + sz b + sz x) = 60 * r + n + 1 + 1 + sz a + sz b + sz x by omega]; exact s5.2)
        rw [List.append_assoc, ← h4] at o4
        have hk' := okt_rd (u := 10) (q := q) hc (fun i b hi hbi => by
          have := (hb i hi).2
          rw [hbi] at this
          exact this.2.2.2.2) t hk h1
        have hdp := dp_rd (q := q) (u := 10) (c := c) (fun i b hi hbi => by
          have := (hb i hi).2
          rw [hbi] at this
          exact this.2.2.2.1) t hk h1
        have hw' := okt_wft (by omega) (by omega) t' hk' (by omega)
        have hne : ¬ jn u = jn f := by
          rw [j_eq (by omega) (by omega)]
          omega
        obtain ⟨et1, et2⟩ := q_take hfl (B := (br, bl)) (J := J3) (vf := jn f) (vu := jn u) (vx := jn 0) (by omega : r < 96) hw' o4
        by_cases hbig : sz t' ≤ 60 ∧ dp t' ≤ 12
        · obtain ⟨B', J', et, hrow', hsm⟩ := et1 hbig
          refine ⟨B', O4, J', hsm, .inl ⟨hbig.1, hbig.2, hrow', fun w => ?_⟩⟩
          rw [lp_fm_toHead_13]
          (repeat (first | (with_reducible refine ifn ?_ ?_; (focus (simp (disch := omega) only [jlo, jl0, jl1, jl2, jl3, jl4, jl5, jl9, jl10, jl12, jl16, jl30, jl60, jl63, jl64, jl80, jl100, jl120, jl512, jlM, jlm, j_lt, j_le, j_eq, j_add, j_mul, j_div, j_mod, j_sub, j_m1, j_nelt, j_melt, j_nele, j_mele, j_neeq, j_meeq, j_nat, j_bz0, j_bz1, jc_le0, jc_le1, jc_lt0, jc_lt1, jc_eq0, jc_eq1, Nat.not_lt_zero, Nat.zero_le, ne_eq, false_or, or_false, true_or, or_true, not_false_eq_true, not_true_eq_false, ↓reduceIte, Option.bind_some, Nat.add_sub_cancel, Nat.add_sub_cancel_left, reduceCtorEq, Option.some.injEq, Prod.mk.injEq, true_and, and_true, decide_true, decide_false, Bool.true_eq_false, Bool.false_eq_true, Bool.not_eq_true, Bool.not_eq_false, h19, q_at, hm1, q_kind, Nat.reduceMod, t1, t2, t3, e1, e2, e3', hz, e4, et, hne]; done))) | (with_reducible refine ifp ?_ ?_; (focus (simp (disch := omega) only [jlo, jl0, jl1, jl2, jl3, jl4, jl5, jl9, jl10, jl12, jl16, jl30, jl60, jl63, jl64, jl80, jl100, jl120, jl512, jlM, jlm, j_lt, j_le, j_eq, j_add, j_mul, j_div, j_mod, j_sub, j_m1, j_nelt, j_melt, j_nele, j_mele, j_neeq, j_meeq, j_nat, j_bz0, j_bz1, jc_le0, jc_le1, jc_lt0, jc_lt1, jc_eq0, jc_eq1, Nat.not_lt_zero, Nat.zero_le, ne_eq, false_or, or_false, true_or, or_true, not_false_eq_true, not_true_eq_false, ↓reduceIte, Option.bind_some, Nat.add_sub_cancel, Nat.add_sub_cancel_left, reduceCtorEq, Option.some.injEq, Prod.mk.injEq, true_and, and_true, decide_true, decide_false, Bool.true_eq_false, Bool.false_eq_true, Bool.not_eq_true, Bool.not_eq_false, h19, q_at, hm1, q_kind, Nat.reduceMod, t1, t2, t3, e1, e2, e3', hz, e4, et, hne]; done))) | (with_reducible apply bnd1; (focus ((try simp (disch := omega) only [jlo, jl0, jl1, jl2, jl3, jl4, jl5, jl9, jl10, jl12, jl16, jl30, jl60, jl63, jl64, jl80, jl100, jl120, jl512, jlM, jlm, j_lt, j_le, j_eq, j_add, j_mul, j_div, j_mod, j_sub, j_m1, j_nelt, j_melt, j_nele, j_mele, j_neeq, j_meeq, j_nat, j_bz0, j_bz1, jc_le0, jc_le1, jc_lt0, jc_lt1, jc_eq0, jc_eq1, Nat.not_lt_zero, Nat.zero_le, ne_eq, false_or, or_false, true_or, or_true, not_false_eq_true, not_true_eq_false, ↓reduceIte, Option.bind_some, Nat.add_sub_cancel, Nat.add_sub_cancel_left, reduceCtorEq, Option.some.injEq, Prod.mk.injEq, true_and, and_true, decide_true, decide_false, Bool.true_eq_false, Bool.false_eq_true, Bool.not_eq_true, Bool.not_eq_false, h19, q_at, hm1, q_kind, Nat.reduceMod, t1, t2, t3, e1, e2, e3', hz, e4, et, hne]); exact rfl)); with_reducible refine bnd rfl ?_)))
          simp only [jl1, j_add]
        · obtain ⟨B', J', et, hsm⟩ := et2 hbig
          refine ⟨B', O4, J', hsm, .inr ⟨hbig, fun w => ?_⟩⟩
          rw [lp_fm_toHead_13]
          (repeat (first | (with_reducible refine ifn ?_ ?_; (focus (simp (disch := omega) only [jlo, jl0, jl1, jl2, jl3, jl4, jl5, jl9, jl10, jl12, jl16, jl30, jl60, jl63, jl64, jl80, jl100, jl120, jl512, jlM, jlm, j_lt, j_le, j_eq, j_add, j_mul, j_div, j_mod, j_sub, j_m1, j_nelt, j_melt, j_nele, j_mele, j_neeq, j_meeq, j_nat, j_bz0, j_bz1, jc_le0, jc_le1, jc_lt0, jc_lt1, jc_eq0, jc_eq1, Nat.not_lt_zero, Nat.zero_le, ne_eq, false_or, or_false, true_or, or_true, not_false_eq_true, not_true_eq_false, ↓reduceIte, Option.bind_some, Nat.add_sub_cancel, Nat.add_sub_cancel_left, reduceCtorEq, Option.some.injEq, Prod.mk.injEq, true_and, and_true, decide_true, decide_false, Bool.true_eq_false, Bool.false_eq_true, Bool.not_eq_true, Bool.not_eq_false, h19, q_at, hm1, q_kind, Nat.reduceMod, t1, t2, t3, e1, e2, e3', hz, e4, et, hne]; done))) | (with_reducible refine ifp ?_ ?_; (focus (simp (disch := omega) only [jlo, jl0, jl1, jl2, jl3, jl4, jl5, jl9, jl10, jl12, jl16, jl30, jl60, jl63, jl64, jl80, jl100, jl120, jl512, jlM, jlm, j_lt, j_le, j_eq, j_add, j_mul, j_div, j_mod, j_sub, j_m1, j_nelt, j_melt, j_nele, j_mele, j_neeq, j_meeq, j_nat, j_bz0, j_bz1, jc_le0, jc_le1, jc_lt0, jc_lt1, jc_eq0, jc_eq1, Nat.not_lt_zero, Nat.zero_le, ne_eq, false_or, or_false, true_or, or_true, not_false_eq_true, not_true_eq_false, ↓reduceIte, Option.bind_some, Nat.add_sub_cancel, Nat.add_sub_cancel_left, reduceCtorEq, Option.some.injEq, Prod.mk.injEq, true_and, and_true, decide_true, decide_false, Bool.true_eq_false, Bool.false_eq_true, Bool.not_eq_true, Bool.not_eq_false, h19, q_at, hm1, q_kind, Nat.reduceMod, t1, t2, t3, e1, e2, e3', hz, e4, et, hne]; done))) | (with_reducible apply bnd1; (focus ((try simp (disch := omega) only [jlo, jl0, jl1, jl2, jl3, jl4, jl5, jl9, jl10, jl12, jl16, jl30, jl60, jl63, jl64, jl80, jl100, jl120, jl512, jlM, jlm, j_lt, j_le, j_eq, j_add, j_mul, j_div, j_mod, j_sub, j_m1, j_nelt, j_melt, j_nele, j_mele, j_neeq, j_meeq, j_nat, j_bz0, j_bz1, jc_le0, jc_le1, jc_lt0, jc_lt1, jc_eq0, jc_eq1, Nat.not_lt_zero, Nat.zero_le, ne_eq, false_or, or_false, true_or, or_true, not_false_eq_true, not_true_eq_false, ↓reduceIte, Option.bind_some, Nat.add_sub_cancel, Nat.add_sub_cancel_left, reduceCtorEq, Option.some.injEq, Prod.mk.injEq, true_and, and_true, decide_true, decide_false, Bool.true_eq_false, Bool.false_eq_true, Bool.not_eq_true, Bool.not_eq_false, h19, q_at, hm1, q_kind, Nat.reduceMod, t1, t2, t3, e1, e2, e3', hz, e4, et, hne]); exact rfl)); with_reducible refine bnd rfl ?_)))
          rfl
  · by_cases c5 : hm t % 10 = 5
    · have hi := okt_hm t hk c5
      have hbi := hb (hm t / 10) hi
      rcases hbo : bo (hm t / 10) with _ | b
      · rw [hbo] at hbi
        have hgb : gb (hm t / 10) = jn 0 := hbi.2
        have hnone : rd bo t = none := rd_none t hw (by omega) (fun _ => hbo)
        refine ⟨fun _ => ⟨O, (jp, ji), fun w => ?_⟩, fun t' h => by rw [hnone] at h; cases h⟩
        rw [lp_fm_toHead_13]
        (repeat (first | (with_reducible refine ifn ?_ ?_; (focus (simp (disch := omega) only [jlo, jl0, jl1, jl2, jl3, jl4, jl5, jl9, jl10, jl12, jl16, jl30, jl60, jl63, jl64, jl80, jl100, jl120, jl512, jlM, jlm, j_lt, j_le, j_eq, j_add, j_mul, j_div, j_mod, j_sub, j_m1, j_nelt, j_melt, j_nele, j_mele, j_neeq, j_meeq, j_nat, j_bz0, j_bz1, jc_le0, jc_le1, jc_lt0, jc_lt1, jc_eq0, jc_eq1, Nat.not_lt_zero, Nat.zero_le, ne_eq, false_or, or_false, true_or, or_true, not_false_eq_true, not_true_eq_false, ↓reduceIte, Option.bind_some, Nat.add_sub_cancel, Nat.add_sub_cancel_left, reduceCtorEq, Option.some.injEq, Prod.mk.injEq, true_and, and_true, decide_true, decide_false, Bool.true_eq_false, Bool.false_eq_true, Bool.not_eq_true, Bool.not_eq_false, h19, q_at, hm1, q_kind, Nat.reduceMod, hgb]; done))) | (with_reducible refine ifp ?_ ?_; (focus (simp (disch := omega) only [jlo, jl0, jl1, jl2, jl3, jl4, jl5, jl9, jl10, jl12, jl16, jl30, jl60, jl63, jl64, jl80, jl100, jl120, jl512, jlM, jlm, j_lt, j_le, j_eq, j_add, j_mul, j_div, j_mod, j_sub, j_m1, j_nelt, j_melt, j_nele, j_mele, j_neeq, j_meeq, j_nat, j_bz0, j_bz1, jc_le0, jc_le1, jc_lt0, jc_lt1, jc_eq0, jc_eq1, Nat.not_lt_zero, Nat.zero_le, ne_eq, false_or, or_false, true_or, or_true, not_false_eq_true, not_true_eq_false, ↓reduceIte, Option.bind_some, Nat.add_sub_cancel, Nat.add_sub_cancel_left, reduceCtorEq, Option.some.injEq, Prod.mk.injEq, true_and, and_true, decide_true, decide_false, Bool.true_eq_false, Bool.false_eq_true, Bool.not_eq_true, Bool.not_eq_false, h19, q_at, hm1, q_kind, Nat.reduceMod, hgb]; done))) | (with_reducible apply bnd1; (focus ((try simp (disch := omega) only [jlo, jl0, jl1, jl2, jl3, jl4, jl5, jl9, jl10, jl12, jl16, jl30, jl60, jl63, jl64, jl80, jl100, jl120, jl512, jlM, jlm, j_lt, j_le, j_eq, j_add, j_mul, j_div, j_mod, j_sub, j_m1, j_nelt, j_melt, j_nele, j_mele, j_neeq, j_meeq, j_nat, j_bz0, j_bz1, jc_le0, jc_le1, jc_lt0, jc_lt1, jc_eq0, jc_eq1, Nat.not_lt_zero, Nat.zero_le, ne_eq, false_or, or_false, true_or, or_true, not_false_eq_true, not_true_eq_false, ↓reduceIte, Option.bind_some, Nat.add_sub_cancel, Nat.add_sub_cancel_left, reduceCtorEq, Option.some.injEq, Prod.mk.injEq, true_and, and_true, decide_true, decide_false, Bool.true_eq_false, Bool.false_eq_true, Bool.not_eq_true, Bool.not_eq_false, h19, q_at, hm1, q_kind, Nat.reduceMod, hgb]); exact rfl)); with_reducible refine bnd rfl ?_)))
        rfl
      · rw [hbo] at hbi
        obtain ⟨hi16, hgb, hrb, hb60, hbd, hbk⟩ := hbi
        have hgb : gb (hm t / 10) = jn 1 := hgb
        obtain ⟨t', rest, h1, h2, h4⟩ := rd_bodies (bo := bo) hw c5 hbo
        refine ⟨fun h => (by rw [h1] at h; cases h), fun t'' h => ?_⟩
        rw [h1] at h
        cases h
        refine ⟨fun huf => ⟨O, (jp, ji), fun w => ?_⟩, fun huf => ?_⟩
        · subst huf
          rw [lp_fm_toHead_13]
          (repeat (first | (with_reducible refine ifn ?_ ?_; (focus (simp (disch := omega) only [jlo, jl0, jl1, jl2, jl3, jl4, jl5, jl9, jl10, jl12, jl16, jl30, jl60, jl63, jl64, jl80, jl100, jl120, jl512, jlM, jlm, j_lt, j_le, j_eq, j_add, j_mul, j_div, j_mod, j_sub, j_m1, j_nelt, j_melt, j_nele, j_mele, j_neeq, j_meeq, j_nat, j_bz0, j_bz1, jc_le0, jc_le1, jc_lt0, jc_lt1, jc_eq0, jc_eq1, Nat.not_lt_zero, Nat.zero_le, ne_eq, false_or, or_false, true_or, or_true, not_false_eq_true, not_true_eq_false, ↓reduceIte, Option.bind_some, Nat.add_sub_cancel, Nat.add_sub_cancel_left, reduceCtorEq, Option.some.injEq, Prod.mk.injEq, true_and, and_true, decide_true, decide_false, Bool.true_eq_false, Bool.false_eq_true, Bool.not_eq_true, Bool.not_eq_false, h19, q_at, hm1, q_kind, Nat.reduceMod, hgb]; done))) | (with_reducible refine ifp ?_ ?_; (focus (simp (disch := omega) only [jlo, jl0, jl1, jl2, jl3, jl4, jl5, jl9, jl10, jl12, jl16, jl30, jl60, jl63, jl64, jl80, jl100, jl120, jl512, jlM, jlm, j_lt, j_le, j_eq, j_add, j_mul, j_div, j_mod, j_sub, j_m1, j_nelt, j_melt, j_nele, j_mele, j_neeq, j_meeq, j_nat, j_bz0, j_bz1, jc_le0, jc_le1, jc_lt0, jc_lt1, jc_eq0, jc_eq1, Nat.not_lt_zero, Nat.zero_le, ne_eq, false_or, or_false, true_or, or_true, not_false_eq_true, not_true_eq_false, ↓reduceIte, Option.bind_some, Nat.add_sub_cancel, Nat.add_sub_cancel_left, reduceCtorEq, Option.some.injEq, Prod.mk.injEq, true_and, and_true, decide_true, decide_false, Bool.true_eq_false, Bool.false_eq_true, Bool.not_eq_true, Bool.not_eq_false, h19, q_at, hm1, q_kind, Nat.reduceMod, hgb]; done))) | (with_reducible apply bnd1; (focus ((try simp (disch := omega) only [jlo, jl0, jl1, jl2, jl3, jl4, jl5, jl9, jl10, jl12, jl16, jl30, jl60, jl63, jl64, jl80, jl100, jl120, jl512, jlM, jlm, j_lt, j_le, j_eq, j_add, j_mul, j_div, j_mod, j_sub, j_m1, j_nelt, j_melt, j_nele, j_mele, j_neeq, j_meeq, j_nat, j_bz0, j_bz1, jc_le0, jc_le1, jc_lt0, jc_lt1, jc_eq0, jc_eq1, Nat.not_lt_zero, Nat.zero_le, ne_eq, false_or, or_false, true_or, or_true, not_false_eq_true, not_true_eq_false, ↓reduceIte, Option.bind_some, Nat.add_sub_cancel, Nat.add_sub_cancel_left, reduceCtorEq, Option.some.injEq, Prod.mk.injEq, true_and, and_true, decide_true, decide_false, Bool.true_eq_false, Bool.false_eq_true, Bool.not_eq_true, Bool.not_eq_false, h19, q_at, hm1, q_kind, Nat.reduceMod, hgb]); exact rfl)); with_reducible refine bnd rfl ?_)))
          rfl
        · have hl2 := hlen
          rw [h2] at hs hl2
          simp only [List.length_append, List.length_cons, List.length_replicate] at hl2
          obtain ⟨s1, s2⟩ := seg_app.mp hs
          rw [List.length_replicate] at s2
          have hzb : bl (80 + hm t / 10) = jn (sz b) := hrb.1
          obtain ⟨O1, e1, o1⟩ := q_begin O
          obtain ⟨O2, e2, o2⟩ := q_putAll hfl (r := r) (i := 0) (e := ap t) (B := (br, bl)) (ys := List.replicate (ap t) 4) (by rw [List.length_replicate]; omega) o1 (by rw [List.length_replicate]; omega) s1
          obtain ⟨O3, e3, o3⟩ := q_putAll hfl (r := 80 + hm t / 10) (i := 0) (e := sz b) (B := (br, bl)) (ys := enc b) (by rw [enc_len]; omega) o2 (by rw [enc_len]; omega) hrb.2
          obtain ⟨O4, e4, o4⟩ := q_putAll hfl (r := r) (i := ap t + 1) (e := sz t) (B := (br, bl)) (ys := rest) (by omega) o3 (by omega) (by rw [show 60 * r + (ap t + 1) = 60 * r + ap t + 1 by omega]; exact s2.2)
          rw [List.nil_append, List.append_assoc, ← h4] at o4
          have hk' := okt_rd (u := 10) (q := q) hc (fun i b hi hbi => by
            have := (hb i hi).2
            rw [hbi] at this
            exact this.2.2.2.2) t hk h1
          have hdp := dp_rd (q := q) (u := 10) (c := c) (fun i b hi hbi => by
            have := (hb i hi).2
            rw [hbi] at this
            exact this.2.2.2.1) t hk h1
          have hw' := okt_wft (by omega) (by omega) t' hk' (by omega)
          have hne : ¬ jn u = jn f := by
            rw [j_eq (by omega) (by omega)]
            omega
          obtain ⟨et1, et2⟩ := q_take hfl (B := (br, bl)) (J := (jp, ji)) (vf := jn f) (vu := jn u) (vx := jn 0) (by omega : r < 96) hw' o4
          by_cases hbig : sz t' ≤ 60 ∧ dp t' ≤ 12
          · obtain ⟨B', J', et, hrow', hsm⟩ := et1 hbig
            refine ⟨B', O4, J', hsm, .inl ⟨hbig.1, hbig.2, hrow', fun w => ?_⟩⟩
            rw [lp_fm_toHead_13]
            (repeat (first | (with_reducible refine ifn ?_ ?_; (focus (simp (disch := omega) only [jlo, jl0, jl1, jl2, jl3, jl4, jl5, jl9, jl10, jl12, jl16, jl30, jl60, jl63, jl64, jl80, jl100, jl120, jl512, jlM, jlm, j_lt, j_le, j_eq, j_add, j_mul, j_div, j_mod, j_sub, j_m1, j_nelt, j_melt, j_nele, j_mele, j_neeq, j_meeq, j_nat, j_bz0, j_bz1, jc_le0, jc_le1, jc_lt0, jc_lt1, jc_eq0, jc_eq1, Nat.not_lt_zero, Nat.zero_le, ne_eq, false_or, or_false, true_or, or_true, not_false_eq_true, not_true_eq_false, ↓reduceIte, Option.bind_some, Nat.add_sub_cancel, Nat.add_sub_cancel_left, reduceCtorEq, Option.some.injEq, Prod.mk.injEq, true_and, and_true, decide_true, decide_false, Bool.true_eq_false, Bool.false_eq_true, Bool.not_eq_true, Bool.not_eq_false, h19, q_at, hm1, q_kind, Nat.reduceMod, hgb, e1, e2, hzb, e3, hz, e4, et, hne]; done))) | (with_reducible refine ifp ?_ ?_; (focus (simp (disch := omega) only [jlo, jl0, jl1, jl2, jl3, jl4, jl5, jl9, jl10, jl12, jl16, jl30, jl60, jl63, jl64, jl80, jl100, jl120, jl512, jlM, jlm, j_lt, j_le, j_eq, j_add, j_mul, j_div, j_mod, j_sub, j_m1, j_nelt, j_melt, j_nele, j_mele, j_neeq, j_meeq, j_nat, j_bz0, j_bz1, jc_le0, jc_le1, jc_lt0, jc_lt1, jc_eq0, jc_eq1, Nat.not_lt_zero, Nat.zero_le, ne_eq, false_or, or_false, true_or, or_true, not_false_eq_true, not_true_eq_false, ↓reduceIte, Option.bind_some, Nat.add_sub_cancel, Nat.add_sub_cancel_left, reduceCtorEq, Option.some.injEq, Prod.mk.injEq, true_and, and_true, decide_true, decide_false, Bool.true_eq_false, Bool.false_eq_true, Bool.not_eq_true, Bool.not_eq_false, h19, q_at, hm1, q_kind, Nat.reduceMod, hgb, e1, e2, hzb, e3, hz, e4, et, hne]; done))) | (with_reducible apply bnd1; (focus ((try simp (disch := omega) only [jlo, jl0, jl1, jl2, jl3, jl4, jl5, jl9, jl10, jl12, jl16, jl30, jl60, jl63, jl64, jl80, jl100, jl120, jl512, jlM, jlm, j_lt, j_le, j_eq, j_add, j_mul, j_div, j_mod, j_sub, j_m1, j_nelt, j_melt, j_nele, j_mele, j_neeq, j_meeq, j_nat, j_bz0, j_bz1, jc_le0, jc_le1, jc_lt0, jc_lt1, jc_eq0, jc_eq1, Nat.not_lt_zero, Nat.zero_le, ne_eq, false_or, or_false, true_or, or_true, not_false_eq_true, not_true_eq_false, ↓reduceIte, Option.bind_some, Nat.add_sub_cancel, Nat.add_sub_cancel_left, reduceCtorEq, Option.some.injEq, Prod.mk.injEq, true_and, and_true, decide_true, decide_false, Bool.true_eq_false, Bool.false_eq_true, Bool.not_eq_true, Bool.not_eq_false, h19, q_at, hm1, q_kind, Nat.reduceMod, hgb, e1, e2, hzb, e3, hz, e4, et, hne]); exact rfl)); with_reducible refine bnd rfl ?_)))
            simp only [jl1, j_add]
          · obtain ⟨B', J', et, hsm⟩ := et2 hbig
            refine ⟨B', O4, J', hsm, .inr ⟨hbig, fun w => ?_⟩⟩
            rw [lp_fm_toHead_13]
            (repeat (first | (with_reducible refine ifn ?_ ?_; (focus (simp (disch := omega) only [jlo, jl0, jl1, jl2, jl3, jl4, jl5, jl9, jl10, jl12, jl16, jl30, jl60, jl63, jl64, jl80, jl100, jl120, jl512, jlM, jlm, j_lt, j_le, j_eq, j_add, j_mul, j_div, j_mod, j_sub, j_m1, j_nelt, j_melt, j_nele, j_mele, j_neeq, j_meeq, j_nat, j_bz0, j_bz1, jc_le0, jc_le1, jc_lt0, jc_lt1, jc_eq0, jc_eq1, Nat.not_lt_zero, Nat.zero_le, ne_eq, false_or, or_false, true_or, or_true, not_false_eq_true, not_true_eq_false, ↓reduceIte, Option.bind_some, Nat.add_sub_cancel, Nat.add_sub_cancel_left, reduceCtorEq, Option.some.injEq, Prod.mk.injEq, true_and, and_true, decide_true, decide_false, Bool.true_eq_false, Bool.false_eq_true, Bool.not_eq_true, Bool.not_eq_false, h19, q_at, hm1, q_kind, Nat.reduceMod, hgb, e1, e2, hzb, e3, hz, e4, et, hne]; done))) | (with_reducible refine ifp ?_ ?_; (focus (simp (disch := omega) only [jlo, jl0, jl1, jl2, jl3, jl4, jl5, jl9, jl10, jl12, jl16, jl30, jl60, jl63, jl64, jl80, jl100, jl120, jl512, jlM, jlm, j_lt, j_le, j_eq, j_add, j_mul, j_div, j_mod, j_sub, j_m1, j_nelt, j_melt, j_nele, j_mele, j_neeq, j_meeq, j_nat, j_bz0, j_bz1, jc_le0, jc_le1, jc_lt0, jc_lt1, jc_eq0, jc_eq1, Nat.not_lt_zero, Nat.zero_le, ne_eq, false_or, or_false, true_or, or_true, not_false_eq_true, not_true_eq_false, ↓reduceIte, Option.bind_some, Nat.add_sub_cancel, Nat.add_sub_cancel_left, reduceCtorEq, Option.some.injEq, Prod.mk.injEq, true_and, and_true, decide_true, decide_false, Bool.true_eq_false, Bool.false_eq_true, Bool.not_eq_true, Bool.not_eq_false, h19, q_at, hm1, q_kind, Nat.reduceMod, hgb, e1, e2, hzb, e3, hz, e4, et, hne]; done))) | (with_reducible apply bnd1; (focus ((try simp (disch := omega) only [jlo, jl0, jl1, jl2, jl3, jl4, jl5, jl9, jl10, jl12, jl16, jl30, jl60, jl63, jl64, jl80, jl100, jl120, jl512, jlM, jlm, j_lt, j_le, j_eq, j_add, j_mul, j_div, j_mod, j_sub, j_m1, j_nelt, j_melt, j_nele, j_mele, j_neeq, j_meeq, j_nat, j_bz0, j_bz1, jc_le0, jc_le1, jc_lt0, jc_lt1, jc_eq0, jc_eq1, Nat.not_lt_zero, Nat.zero_le, ne_eq, false_or, or_false, true_or, or_true, not_false_eq_true, not_true_eq_false, ↓reduceIte, Option.bind_some, Nat.add_sub_cancel, Nat.add_sub_cancel_left, reduceCtorEq, Option.some.injEq, Prod.mk.injEq, true_and, and_true, decide_true, decide_false, Bool.true_eq_false, Bool.false_eq_true, Bool.not_eq_true, Bool.not_eq_false, h19, q_at, hm1, q_kind, Nat.reduceMod, hgb, e1, e2, hzb, e3, hz, e4, et, hne]); exact rfl)); with_reducible refine bnd rfl ?_)))
            rfl
    · have hnone : rd bo t = none := rd_none t hw (by omega) (by omega)
      refine ⟨fun _ => ⟨O, (jp, ji), fun w => ?_⟩, fun t' h => by rw [hnone] at h; cases h⟩
      rw [lp_fm_toHead_13]
      (repeat (first | (with_reducible refine ifn ?_ ?_; (focus (simp (disch := omega) only [jlo, jl0, jl1, jl2, jl3, jl4, jl5, jl9, jl10, jl12, jl16, jl30, jl60, jl63, jl64, jl80, jl100, jl120, jl512, jlM, jlm, j_lt, j_le, j_eq, j_add, j_mul, j_div, j_mod, j_sub, j_m1, j_nelt, j_melt, j_nele, j_mele, j_neeq, j_meeq, j_nat, j_bz0, j_bz1, jc_le0, jc_le1, jc_lt0, jc_lt1, jc_eq0, jc_eq1, Nat.not_lt_zero, Nat.zero_le, ne_eq, false_or, or_false, true_or, or_true, not_false_eq_true, not_true_eq_false, ↓reduceIte, Option.bind_some, Nat.add_sub_cancel, Nat.add_sub_cancel_left, reduceCtorEq, Option.some.injEq, Prod.mk.injEq, true_and, and_true, decide_true, decide_false, Bool.true_eq_false, Bool.false_eq_true, Bool.not_eq_true, Bool.not_eq_false, h19, q_at, hm1, q_kind, Nat.reduceMod]; done))) | (with_reducible refine ifp ?_ ?_; (focus (simp (disch := omega) only [jlo, jl0, jl1, jl2, jl3, jl4, jl5, jl9, jl10, jl12, jl16, jl30, jl60, jl63, jl64, jl80, jl100, jl120, jl512, jlM, jlm, j_lt, j_le, j_eq, j_add, j_mul, j_div, j_mod, j_sub, j_m1, j_nelt, j_melt, j_nele, j_mele, j_neeq, j_meeq, j_nat, j_bz0, j_bz1, jc_le0, jc_le1, jc_lt0, jc_lt1, jc_eq0, jc_eq1, Nat.not_lt_zero, Nat.zero_le, ne_eq, false_or, or_false, true_or, or_true, not_false_eq_true, not_true_eq_false, ↓reduceIte, Option.bind_some, Nat.add_sub_cancel, Nat.add_sub_cancel_left, reduceCtorEq, Option.some.injEq, Prod.mk.injEq, true_and, and_true, decide_true, decide_false, Bool.true_eq_false, Bool.false_eq_true, Bool.not_eq_true, Bool.not_eq_false, h19, q_at, hm1, q_kind, Nat.reduceMod]; done))) | (with_reducible apply bnd1; (focus ((try simp (disch := omega) only [jlo, jl0, jl1, jl2, jl3, jl4, jl5, jl9, jl10, jl12, jl16, jl30, jl60, jl63, jl64, jl80, jl100, jl120, jl512, jlM, jlm, j_lt, j_le, j_eq, j_add, j_mul, j_div, j_mod, j_sub, j_m1, j_nelt, j_melt, j_nele, j_mele, j_neeq, j_meeq, j_nat, j_bz0, j_bz1, jc_le0, jc_le1, jc_lt0, jc_lt1, jc_eq0, jc_eq1, Nat.not_lt_zero, Nat.zero_le, ne_eq, false_or, or_false, true_or, or_true, not_false_eq_true, not_true_eq_false, ↓reduceIte, Option.bind_some, Nat.add_sub_cancel, Nat.add_sub_cancel_left, reduceCtorEq, Option.some.injEq, Prod.mk.injEq, true_and, and_true, decide_true, decide_false, Bool.true_eq_false, Bool.false_eq_true, Bool.not_eq_true, Bool.not_eq_false, h19, q_at, hm1, q_kind, Nat.reduceMod]); exact rfl)); with_reducible refine bnd rfl ?_)))
      rfl
