theorem kq_sm {B B' : cB} {tp r : Nat} (h : Kq B B' tp r) {ρ : Nat} (h1 : ρ ≠ r) (h4 : 4 ≤ ρ) (h5 : ρ < tp ∨ 63 ≤ ρ) : Sm B B' ρ := h ρ h1 (by omega) (by omega) (by omega) h5
theorem q_ty {fl : Nat} (hfl : 10000 ≤ fl) {q f : Nat} {G : cG} {ct : Nat → tm} {bo : Nat → Option tm} (hq : q ≤ 16) (hf30 : f ≤ 30) (t : tm) : ∀ {Γ : List tm} {n : Nat} {B : cB} {O : cO} {J : cJ} {Z : cZ} {ya ys yl yc : Nat → Int32} {o tp r : Nat} {v1 : Int32},
    okt 9 q (10 + Γ.length) t → sz t ≤ 60 → dp t + Γ.length ≤ 12 → Row B r t → (r = 63 ∨ 4 ≤ r ∧ r < tp) → 4 ≤ tp → tp + 2 * dp t ≤ 62 → o + dp t ≤ 37 → Cx q B yc tp r Γ → Bod q G B bo → Typ q B ct → n ≤ f → ya o = jn r → ys o = jn 0 →
    match ty ct bo t Γ n with
      | .inl e => (e = 2 ∨ e = 3) ∧ ∃ B' O' J' Z' Y' u', (∀ w, lp_fm_toType_28 fl (w + kt t + 1) G B O J (jn f, jn (f - n), jn 0) (jn (o + 1), ya, ys, yl, jn tp, jn Γ.length, yc) Z v1 = some (B', O', J', (jn f, u', jn e), Y', Z')) ∧ ∀ ρ, (ρ = 2 ∨ 64 ≤ ρ) → Sm B B' ρ
      | .inr (T, n') => n' ≤ n ∧ okt 10 q (10 + Γ.length) T ∧ sz T ≤ 60 ∧ dp T ≤ 12 ∧ ∃ B' O' J' Z' ya' ys' yl' yc', (∀ w, lp_fm_toType_28 fl (w + kt t) G B O J (jn f, jn (f - n), jn 0) (jn (o + 1), ya, ys, yl, jn tp, jn Γ.length, yc) Z v1 = lp_fm_toType_28 fl w G B' O' J' (jn f, jn (f - n'), jn 0) (jn o, ya', ys', yl', jn tp, jn Γ.length, yc') Z' v1) ∧ Row B' r T ∧ Kq B B' tp r ∧
          (∀ j, j < o → ya' j = ya j ∧ ys' j = ys j ∧ yl' j = yl j) ∧ ∀ j, j < Γ.length → yc' j = yc j := by
  induction t with
  | leaf m =>
    intro Γ n B O J Z ya ys yl yc o tp r v1 hkt h60 hd hrow hr h4 htp ho hcx hb hty hn hya hys
    simp only [dp] at hd htp ho
    have h := q_leaf hfl (f := f) (n := n) (G := G) (O := O) (J := J) (v1 := v1) (Z := Z) (yl := yl) (bo := bo) hq (by omega) (by omega) (by omega) (by omega) hkt hrow hcx hty hya hys
    split
    · rename_i e he
      rw [he] at h
      obtain ⟨h1, B1, J1, Y1, h2, h3⟩ := h
      exact ⟨h1, B1, O, J1, Z, Y1, jn (f - n), fun w => h2 w, fun ρ _ => h3 ρ⟩
    · rename_i T n' he
      rw [he] at h
      obtain ⟨rfl, h1, h2, h3, B1, J1, h4', h5, h6⟩ := h
      exact ⟨Nat.le_refl _, h1, h2, h3, B1, O, J1, Z, ya, ys, yl, yc, fun w => h4' w, h5, fun ρ h _ _ _ _ => h6 ρ h, fun _ _ => ⟨rfl, rfl, rfl⟩, fun _ _ => rfl⟩
  | branch k a b iha ihb =>
    intro Γ n B O J Z ya ys yl yc o tp r v1 hkt h60 hd hrow hr h4 htp ho hcx hb hty hn hya hys
    have pa := sz_pos a
    have pb := sz_pos b
    have qa := dp_pos a
    have h61 := h60
    have hd1 := hd
    have htp1 := htp
    have ho1 := ho
    simp only [sz] at h61
    simp only [dp] at hd1 htp1 ho1
    have d1 : dp a ≤ Nat.max (dp a) (dp b) := Nat.le_max_left _ _
    have d2 : dp b ≤ Nat.max (dp a) (dp b) := Nat.le_max_right _ _
    have hw := okt_wft (by omega) (by omega) _ hkt (by omega)
    have hrtp : tp ≠ r := by omega
    obtain ⟨B1, e1, r1, sm1⟩ := q_st1 hfl (G := G) (O := O) (J := J) (vf := jn f) (vu := jn (f - n)) (v1 := v1) (Z := Z) (yl := yl) (yc := yc) (o := o) (tp := tp) (r := r) (kn := jn Γ.length) (by omega) (by omega) (by omega) hrtp hw h60 hrow hya hys
    have hb1 : Bod q G B1 bo := bod_sm hb fun ρ h _ => sm1 ρ (by omega)
    have hty1 : Typ q B1 ct := typ_sm hq hty fun ρ h => sm1 ρ (by omega)
    have hcx1 : Cx q B1 yc (tp + 1) tp Γ := cx_mono (by omega) Γ (fun rc h1 h2 h3 => ⟨by omega, sm1 rc (by omega)⟩) (fun _ _ => rfl) hcx
    have ia := iha (Γ := Γ) (n := n) (B := B1) (O := O) (J := J) (Z := Z) (ya := upd ya (o + 1) (jn tp)) (ys := upd (upd ys o (jn 1)) (o + 1) (jn 0)) (yl := yl) (yc := yc) (o := o + 1) (tp := tp + 1) (r := tp) (v1 := v1) hkt.2.1 (by omega) (by omega) r1 (.inr ⟨h4, by omega⟩) (by omega) (by omega) (by omega) hcx1 hb1 hty1 hn (if_pos rfl) (if_pos rfl)
    rcases ha : ty ct bo a Γ n with e | ⟨A, n1⟩
    · rw [ha] at ia
      obtain ⟨he, B2, O2, J2, Z2, Y2, u2, e2, s2⟩ := ia
      simp only [ty, ha]
      refine ⟨he, B2, O2, J2, Z2, Y2, u2, fun w => ?_, fun ρ h => sm_trans (sm1 ρ (by omega)) (s2 ρ h)⟩
      rw [show w + kt (.branch k a b) + 1 = w + kt b + 2 + kt a + 1 + 1 by simp only [kt]; omega, e1, e2]
    · rw [ha] at ia
      obtain ⟨hn1, hAk, hA60, hAd, B2, O2, J2, Z2, ya2, ys2, yl2, yc2, e2, r2, kq2, ar2, ac2⟩ := ia
      have hsm2 : ∀ ρ, ρ ≠ tp → 4 ≤ ρ → (ρ < tp ∨ 63 ≤ ρ) → Sm B B2 ρ := fun ρ h h' h'' => sm_trans (sm1 ρ h) (kq_sm kq2 h h' (by omega))
      have hb2 : Bod q G B2 bo := bod_sm hb fun ρ h _ => hsm2 ρ (by omega) (by omega) (by omega)
      have hty2 : Typ q B2 ct := typ_sm hq hty fun ρ h => hsm2 ρ (by omega) (by omega) (by omega)
      have hrow2 := row_sm h60 (hsm2 r (by omega) (by omega) (by omega)) hrow
      have hya2 : ya2 o = jn r := by
        rw [(ar2 o (by omega)).1, j_upd, if_neg (by omega), hya]
      have hys2 : ys2 o = jn 1 := by
        rw [(ar2 o (by omega)).2.1, j_upd, if_neg (by omega), j_upd, if_pos rfl]
      have harr2 : ∀ j, j < o → ya2 j = ya j ∧ ys2 j = ys j ∧ yl2 j = yl j := fun j hj => by
        obtain ⟨a1, a2, a3⟩ := ar2 j (by omega)
        rw [a1, a2, a3, j_upd, if_neg (by omega), j_upd, if_neg (by omega), j_upd, if_neg (by omega)]
        exact ⟨rfl, rfl, rfl⟩
      by_cases hk4 : k = 4
      · subst hk4
        obtain ⟨s1, s2⟩ := q_st2a hfl (f := f) (n := n1) (c := 10 + Γ.length) (O := O2) (J := J2) (v1 := v1) (Z := Z2) (yl := yl2) (yc := yc2) (o := o) (tp := tp) (r := r) (kn := jn Γ.length) hq hf30 (by omega) (by omega) (by omega) hb2 (by omega) (by omega) h4 (by omega) hrtp (by omega) hw h60 hrow2 r2 hAk hA60 hAd hya2 hys2
        rcases hh : hf bo n1 A with _ | ⟨A', n2⟩
        · obtain ⟨B3, O3, J3, Y3, u3, e3, sm3⟩ := s1 hh
          simp only [ty, ha, if_pos, hh]
          refine ⟨by simp, B3, O3, J3, Z2, Y3, u3, fun w => ?_, fun ρ h => sm_trans (sm_trans (sm1 ρ (by omega)) (kq2 ρ (by omega) (by omega) (by omega) (by omega) (by omega))) (sm3 ρ (by omega))⟩
          rw [show w + kt (.branch 4 a b) + 1 = w + kt b + 1 + 2 + kt a + 1 by simp only [kt]; omega, e1, e2, e3]
        · obtain ⟨s3, s4⟩ := s2 A' n2 hh
          rcases hp : pi2 A' with _ | ⟨x, y⟩
          · obtain ⟨B3, O3, J3, Y3, u3, e3, sm3⟩ := s3 hp
            simp only [ty, ha, if_pos, hh, hp]
            refine ⟨by simp, B3, O3, J3, Z2, Y3, u3, fun w => ?_, fun ρ h => sm_trans (sm_trans (sm1 ρ (by omega)) (kq2 ρ (by omega) (by omega) (by omega) (by omega) (by omega))) (sm3 ρ (by omega))⟩
            rw [show w + kt (.branch 4 a b) + 1 = w + kt b + 1 + 2 + kt a + 1 by simp only [kt]; omega, e1, e2, e3]
          · obtain ⟨B3, O3, J3, e3, rA3, rb3, sm3⟩ := s4 x y hp
            obtain ⟨hA'k, hn2, hA'c, -⟩ := okt_hf (by omega) (bod_okt hb2) n1 hAk hh
            have hA'f : sz A' ≤ 60 ∧ dp A' ≤ 12 := by
              rcases hA'c with ⟨rfl, -⟩ | h
              · exact ⟨hA60, hAd⟩
              · exact ⟨h.1, h.2.1⟩
            have hA'e := pi2_some hp
            subst hA'e
            have hsm3 : ∀ ρ, ρ ≠ tp → 4 ≤ ρ → (ρ < tp ∨ 63 ≤ ρ) → Sm B B3 ρ := fun ρ h h' h'' => sm_trans (hsm2 ρ h h' h'') (sm3 ρ h (by omega))
            have hb3 : Bod q G B3 bo := bod_sm hb fun ρ h _ => hsm3 ρ (by omega) (by omega) (by omega)
            have hty3 : Typ q B3 ct := typ_sm hq hty fun ρ h => hsm3 ρ (by omega) (by omega) (by omega)
            have hcx3 : Cx q B3 yc2 (tp + 2) (tp + 1) Γ := cx_mono (by omega) Γ (fun rc h1 h2 h3 => ⟨by omega, hsm3 rc (by omega) h1 (by omega)⟩) ac2 hcx
            have ib := ihb (Γ := Γ) (n := n2) (B := B3) (O := O3) (J := J3) (Z := Z2) (ya := upd ya2 (o + 1) (jn (tp + 1))) (ys := upd (upd ys2 o (jn 2)) (o + 1) (jn 0)) (yl := yl2) (yc := yc2) (o := o + 1) (tp := tp + 2) (r := tp + 1) (v1 := v1) hkt.2.2 (by omega) (by omega) rb3 (.inr ⟨by omega, by omega⟩) (by omega) (by omega) (by omega) hcx3 hb3 hty3 (by omega) (if_pos rfl) (if_pos rfl)
            rcases hbt : ty ct bo b Γ n2 with e | ⟨T, n3⟩
            · rw [hbt] at ib
              obtain ⟨he, B4, O4, J4, Z4, Y4, u4, e4, sm4⟩ := ib
              simp only [ty, ha, if_pos, hh, hp, hbt]
              refine ⟨he, B4, O4, J4, Z4, Y4, u4, fun w => ?_, fun ρ h => sm_trans (sm_trans (sm_trans (sm1 ρ (by omega)) (kq2 ρ (by omega) (by omega) (by omega) (by omega) (by omega))) (sm3 ρ (by omega) (by omega))) (sm4 ρ h)⟩
              rw [show w + kt (.branch 4 a b) + 1 = w + 1 + kt b + 1 + 1 + kt a + 1 by simp only [kt]; omega, e1, e2, e3, e4]
            · rw [hbt] at ib
              obtain ⟨hn3, hTk, hT60, hTd, B4, O4, J4, Z4, ya4, ys4, yl4, yc4, e4, r4, kq4, ar4, ac4⟩ := ib
              have hsm4 : ∀ ρ, ρ ≠ tp → 4 ≤ ρ → (ρ < tp ∨ 63 ≤ ρ) → Sm B B4 ρ := fun ρ h h' h'' => sm_trans (hsm3 ρ h h' h'') (kq_sm kq4 (by omega) h' (by omega))
              have hb4 : Bod q G B4 bo := bod_sm hb fun ρ h _ => hsm4 ρ (by omega) (by omega) (by omega)
              have hya4 : ya4 o = jn r := by
                rw [(ar4 o (by omega)).1, j_upd, if_neg (by omega), hya2]
              have hys4 : ys4 o = jn 2 := by
                rw [(ar4 o (by omega)).2.1, j_upd, if_neg (by omega), j_upd, if_pos rfl]
              have hrow4 := row_sm h60 (hsm4 r (by omega) (by omega) (by omega)) hrow
              have hA4 := row_sm hA'f.1 (kq_sm kq4 (by omega : tp ≠ tp + 1) h4 (by omega)) rA3
              obtain ⟨B5, O5, J5, Z5, sm5, m5⟩ := q_st3a hfl (f := f) (n := n3) (c := 10 + Γ.length) (O := O4) (J := J4) (v1 := v1) (Z := Z4) (yl := yl4) (yc := yc4) (o := o) (tp := tp) (r := r) (kn := jn Γ.length) (a := a) hq hf30 (by omega) (by omega) (by omega) hb4 (by omega) (by omega) h4 (by omega) (by omega) hrtp (by omega) h60 (by omega) (okt_mono (by omega) (Nat.le_refl q) _ (Nat.le_refl _) hkt) hrow4 hA4 hA'k hA'f.1 hA'f.2 r4 hTk hT60 hTd hya4 hys4
              have hety : ty ct bo (.branch 4 a b) Γ n = cmpT (sbs b 0 y) (sw bo 2000 n3 [(T, x)]) := by
                simp only [ty, ha, if_pos, hh, hp, hbt]
              rcases m5 with ⟨e, u5, Y5, he, hm5, e5⟩ | ⟨n5, hm5, hn5, f1, f2, f3, r5, e5⟩
              · rw [hety, hm5]
                refine ⟨he, B5, O5, J5, Z5, Y5, u5, fun w => ?_, fun ρ h => sm_trans (sm_trans (sm_trans (sm_trans (sm1 ρ (by omega)) (kq2 ρ (by omega) (by omega) (by omega) (by omega) (by omega))) (sm3 ρ (by omega) (by omega))) (kq4 ρ (by omega) (by omega) (by omega) (by omega) (by omega))) (sm5 ρ (by omega) (by omega) (by omega) (by omega))⟩
                rw [show w + kt (.branch 4 a b) + 1 = w + 2 + kt b + 1 + kt a + 1 by simp only [kt]; omega, e1, e2, e3, e4, e5]
              · rw [hety, hm5]
                refine ⟨by omega, f3, f1, f2, B5, O5, J5, Z5, ya4, ys4, yl4, yc4, fun w => ?_, r5, fun ρ h h0 h1 h3 h5 => ?_, fun j hj => ?_, fun j hj => ?_⟩
                · rw [show w + kt (.branch 4 a b) = w + 1 + kt b + 1 + kt a + 1 by simp only [kt]; omega, e1, e2, e3, e4, e5]
                · exact sm_trans (sm_trans (sm_trans (sm_trans (sm1 ρ (by omega)) (kq2 ρ (by omega) h0 h1 h3 (by omega))) (sm3 ρ (by omega) (by omega))) (kq4 ρ (by omega) h0 h1 h3 (by omega))) (sm5 ρ h0 h1 h3 h)
                · obtain ⟨a1, a2, a3⟩ := ar4 j (by omega)
                  rw [a1, a2, a3, j_upd, if_neg (by omega), j_upd, if_neg (by omega), j_upd, if_neg (by omega)]
                  exact harr2 j hj
                · rw [ac4 j hj, ac2 j hj]
      · have hk23 : k = 2 ∨ k = 3 := by
          have := hw.1
          omega
        have hbk : bi k = 1 := if_neg hk4
        have hm2 := q_st2b hfl (f := f) (n := n1) (c := 10 + Γ.length) (O := O2) (J := J2) (v1 := v1) (Z := Z2) (yl := yl2) (yc := yc2) (o := o) (tp := tp) (r := r) (kn := Γ.length) hq hf30 (by omega) (by omega) (by omega) hb2 (by omega) (by omega) h4 (by omega) hrtp (by omega) (by omega) hk4 hw h60 hrow2 r2 hAk hA60 hAd hya2 hys2
        rcases hh : lev bo n1 A with e | ⟨l1, n2⟩
        · rw [hh] at hm2
          obtain ⟨he, B3, O3, J3, Y3, u3, e3, sm3⟩ := hm2
          simp only [ty, ha, if_neg hk4, hh]
          refine ⟨he, B3, O3, J3, Z2, Y3, u3, fun w => ?_, fun ρ h => sm_trans (sm_trans (sm1 ρ (by omega)) (kq2 ρ (by omega) (by omega) (by omega) (by omega) (by omega))) (sm3 ρ (by omega))⟩
          rw [show w + kt (.branch k a b) + 1 = w + kt b + 1 + 2 + kt a + 1 by simp only [kt]; omega, e1, e2, e3]
        · rw [hh] at hm2
          obtain ⟨hl1, hn2, B3, O3, J3, e3, ra3, rb3, sm3⟩ := hm2
          have hsm3 : ∀ ρ, ρ ≠ tp → 4 ≤ ρ → (ρ < tp ∨ 63 ≤ ρ) → Sm B B3 ρ := fun ρ h h' h'' => sm_trans (hsm2 ρ h h' h'') (sm3 ρ h (by omega))
          have hb3 : Bod q G B3 bo := bod_sm hb fun ρ h _ => hsm3 ρ (by omega) (by omega) (by omega)
          have hty3 : Typ q B3 ct := typ_sm hq hty fun ρ h => hsm3 ρ (by omega) (by omega) (by omega)
          have hcx3 : Cx q B3 (upd yc2 Γ.length (jn tp)) (tp + 2) (tp + 1) (a :: Γ) :=
            ⟨⟨tp, if_pos rfl, h4, by omega, by omega, ra3, by omega, by omega, hkt.2.1⟩, cx_mono (by omega) Γ (fun rc h1 h2 h3 => ⟨by omega, hsm3 rc (by omega) h1 (by omega)⟩) (fun j hj => by rw [j_upd, if_neg (by omega), ac2 j hj]) hcx⟩
          have hkb : okt 9 q (10 + (a :: Γ).length) b := by
            have := hkt.2.2
            rw [hbk] at this
            exact this
          have ib := ihb (Γ := a :: Γ) (n := n2) (B := B3) (O := O3) (J := J3) (Z := Z2) (ya := upd ya2 (o + 1) (jn (tp + 1))) (ys := upd (upd ys2 o (jn 2)) (o + 1) (jn 0)) (yl := upd yl2 o (jn l1)) (yc := upd yc2 Γ.length (jn tp)) (o := o + 1) (tp := tp + 2) (r := tp + 1) (v1 := v1) hkb (by omega) (by simp only [List.length_cons]; omega) rb3 (.inr ⟨by omega, by omega⟩) (by omega) (by omega) (by omega) hcx3 hb3 hty3 (by omega) (if_pos rfl) (if_pos rfl)
          rcases hbt : ty ct bo b (a :: Γ) n2 with e | ⟨T, n3⟩
          · rw [hbt] at ib
            obtain ⟨he, B4, O4, J4, Z4, Y4, u4, e4, sm4⟩ := ib
            simp only [ty, ha, if_neg hk4, hh, hbt]
            refine ⟨he, B4, O4, J4, Z4, Y4, u4, fun w => ?_, fun ρ h => sm_trans (sm_trans (sm_trans (sm1 ρ (by omega)) (kq2 ρ (by omega) (by omega) (by omega) (by omega) (by omega))) (sm3 ρ (by omega) (by omega))) (sm4 ρ h)⟩
            rw [show w + kt (.branch k a b) + 1 = w + 1 + kt b + 1 + 1 + kt a + 1 by simp only [kt]; omega, e1, e2, e3]
            exact e4 _
          · rw [hbt] at ib
            obtain ⟨hn3, hTk, hT60, hTd, B4, O4, J4, Z4, ya4, ys4, yl4, yc4, e4, r4, kq4, ar4, ac4⟩ := ib
            have hsm4 : ∀ ρ, ρ ≠ tp → 4 ≤ ρ → (ρ < tp ∨ 63 ≤ ρ) → Sm B B4 ρ := fun ρ h h' h'' => sm_trans (hsm3 ρ h h' h'') (kq_sm kq4 (by omega) h' (by omega))
            have hb4 : Bod q G B4 bo := bod_sm hb fun ρ h _ => hsm4 ρ (by omega) (by omega) (by omega)
            have hya4 : ya4 o = jn r := by
              rw [(ar4 o (by omega)).1, j_upd, if_neg (by omega), hya2]
            have hys4 : ys4 o = jn 2 := by
              rw [(ar4 o (by omega)).2.1, j_upd, if_neg (by omega), j_upd, if_pos rfl]
            have hyl4 : yl4 o = jn l1 := by
              rw [(ar4 o (by omega)).2.2, j_upd, if_pos rfl]
            have hrow4 := row_sm h60 (hsm4 r (by omega) (by omega) (by omega)) hrow
            have harr4 : ∀ j, j < o → ya4 j = ya j ∧ ys4 j = ys j ∧ yl4 j = yl j := fun j hj => by
              obtain ⟨a1, a2, a3⟩ := ar4 j (by omega)
              rw [a1, a2, a3, j_upd, if_neg (by omega), j_upd, if_neg (by omega), j_upd, if_neg (by omega), j_upd, if_neg (by omega)]
              exact harr2 j hj
            have hac4 : ∀ j, j < Γ.length → yc4 j = yc j := fun j hj => by
              rw [ac4 j (by simp only [List.length_cons]; omega), j_upd, if_neg (by omega), ac2 j hj]
            have hlen : (a :: Γ).length = Γ.length + 1 := rfl
            rcases hk23 with rfl | rfl
            · have hm5 := q_st3b hfl (f := f) (n := n3) (c := 10 + Γ.length + 1) (O := O4) (J := J4) (v1 := v1) (Z := Z4) (yl := yl4) (yc := yc4) (o := o) (tp := tp) (r := r) (kn := Γ.length) (l1 := l1) hq hf30 (by omega) (by omega) (by omega) hb4 (by omega) (by omega) h4 (by omega) (by omega) (by omega) h60 hrow4 r4 hTk hT60 hTd hya4 hys4 hyl4 hl1
              rcases hl : lev bo n3 T with e | ⟨l2, n4⟩
              · rw [hl] at hm5
                obtain ⟨he, B5, O5, J5, Y5, u5, e5, sm5⟩ := hm5
                simp only [ty, ha, if_neg hk4, if_pos, hh, hbt, hl]
                refine ⟨he, B5, O5, J5, Z4, Y5, u5, fun w => ?_, fun ρ h => sm_trans (sm_trans (sm_trans (sm_trans (sm1 ρ (by omega)) (kq2 ρ (by omega) (by omega) (by omega) (by omega) (by omega))) (sm3 ρ (by omega) (by omega))) (kq4 ρ (by omega) (by omega) (by omega) (by omega) (by omega))) (sm5 ρ (by omega))⟩
                rw [show w + kt (.branch 2 a b) + 1 = w + 2 + kt b + 1 + kt a + 1 by simp only [kt]; omega, e1, e2, e3]
                exact (e4 _).trans (e5 w)
              · rw [hl] at hm5
                obtain ⟨hl2, hn4, B5, O5, J5, e5, r5, sm5⟩ := hm5
                simp only [ty, ha, if_neg hk4, if_pos, hh, hbt, hl]
                refine ⟨by omega, ?_, Nat.le_of_ble_eq_true rfl, Nat.le_of_ble_eq_true rfl, B5, O5, J5, Z4, ya4, ys4, yl4, yc4, fun w => ?_, r5, fun ρ h h0 h1 h3 h5 => ?_, harr4, hac4⟩
                · have : Nat.max l1 l2 ≤ 10 := Nat.max_le.mpr ⟨hl1, hl2⟩
                  simp only [okt]
                  omega
                · rw [show w + kt (.branch 2 a b) = w + 1 + kt b + 1 + kt a + 1 by simp only [kt]; omega, e1, e2, e3]
                  exact (e4 _).trans (e5 w)
                · exact sm_trans (sm_trans (sm_trans (sm_trans (sm1 ρ (by omega)) (kq2 ρ (by omega) h0 h1 h3 (by omega))) (sm3 ρ (by omega) (by omega))) (kq4 ρ (by omega) h0 h1 h3 (by omega))) (sm5 ρ h (by omega))
            · obtain ⟨B5, O5, J5, sm5, m5⟩ := q_st3c hfl (f := f) (n := n3) (c := 10 + Γ.length) (G := G) (O := O4) (J := J4) (v1 := v1) (Z := Z4) (yl := yl4) (yc := yc4) (o := o) (tp := tp) (r := r) (kn := Γ.length) (a := a) hq (by omega) (by omega) (by omega) h4 (by omega) (by omega) h60 (by omega) (okt_mono (by omega) (Nat.le_refl q) _ (Nat.le_refl _) hkt) hrow4 r4 hTk hT60 hTd hya4 hys4
              have hety : ty ct bo (.branch 3 a b) Γ n = fit (.branch 2 a T) n3 := by
                simp only [ty, ha, if_neg hk4, hh, hbt]
                rfl
              rcases m5 with ⟨hm5, Y5, e5⟩ | ⟨hm5, f1, f2, f3, r5, e5⟩
              · rw [hety, hm5]
                refine ⟨.inr rfl, B5, O5, J5, Z4, Y5, jn (f - n3), fun w => ?_, fun ρ h => sm_trans (sm_trans (sm_trans (sm_trans (sm1 ρ (by omega)) (kq2 ρ (by omega) (by omega) (by omega) (by omega) (by omega))) (sm3 ρ (by omega) (by omega))) (kq4 ρ (by omega) (by omega) (by omega) (by omega) (by omega))) (sm5 ρ (by omega))⟩
                rw [show w + kt (.branch 3 a b) + 1 = w + 2 + kt b + 1 + kt a + 1 by simp only [kt]; omega, e1, e2, e3]
                exact (e4 _).trans (e5 w)
              · rw [hety, hm5]
                refine ⟨by omega, f3, f1, f2, B5, O5, J5, Z4, ya4, ys4, yl4, yc4, fun w => ?_, r5, fun ρ h h0 h1 h3 h5 => ?_, harr4, hac4⟩
                · rw [show w + kt (.branch 3 a b) = w + 1 + kt b + 1 + kt a + 1 by simp only [kt]; omega, e1, e2, e3]
                  exact (e4 _).trans (e5 w)
                · exact sm_trans (sm_trans (sm_trans (sm_trans (sm1 ρ (by omega)) (kq2 ρ (by omega) h0 h1 h3 (by omega))) (sm3 ρ (by omega) (by omega))) (kq4 ρ (by omega) h0 h1 h3 (by omega))) (sm5 ρ h)
