/-! ===== same and check ===== -/
theorem b_same {fl d q : Nat} (hfl : 10000 ≤ fl) (hd : 100 ≤ d) {N : cN} {C : cC} {P : cP} {T : cT} {G : cG} {H : cH} {B : cB} {ct : Nat → tm} {bo : Nat → Option tm} (h : Iv q N C P T G H B ct bo) (E : cE) (F : cF) (k n : Nat) (U : cU) (O : cO) (J : cJ) (V : cV) (Z : cZ) (p1 p2 p3 : Int32) :
    ∃ x N' E' F' k' n' y U' B' O' J' V' Z', fJ_same fl d N C E F k n p1 p2 p3 = some (x, N', E', F', (k', n')) ∧ fm_same fl T G U B O J V Z p1 p2 p3 = some (y, U', B', O', J', V', Z') ∧ Iv q N' C P T G H B' ct bo ∧ Rd x y U' ∧ Co N N' k n k' n' := by
  have hiv := h
  obtain ⟨hN, hle, hT, hC, hG, hty, hbo, hrs⟩ := h
  have hq : q ≤ 16 := hC.2.1
  rcases b_begin hN hT E F k n U V p1 p2 p3 with ⟨c1, m1⟩ | ⟨a, b, f, rfl, rfl, rfl, ha, hb, hf30, c1, m1⟩
  · refine ⟨.inr 0, N, E, F, k + 1, n + 6, false, jn 1, B, O, J, V, Z, ?_, ?_, hiv, .inl ⟨rfl, rfl⟩, by unfold Co; omega⟩
    · unfold fJ_same
      exact bnd c1 rfl
    · unfold fm_same
      exact bnd m1 (ifn (by decide) rfl)
  · obtain ⟨s, hs, hstr, hsk9, hs60, hsd⟩ := tt_get hT ha
    obtain ⟨t, ht, htr, htk9, ht60, htd⟩ := tt_get hT hb
    have hsk : okt 10 q 10 s := okt_mono (by omega) (Nat.le_refl q) s (Nat.le_refl 10) hsk9
    have htk : okt 10 q 10 t := okt_mono (by omega) (Nat.le_refl q) t (Nat.le_refl 10) htk9
    have hen : nen (dr N) = nle N := rfl
    have hnc : ncap (dr N) = ncap N := rfl
    obtain ⟨B1, J1, l1, r1, s1⟩ := b_load hfl hq hN hstr hsk9 hs60 hsd (r := 0) (by omega) B J
    obtain ⟨B2, J2, l2, r2, s2⟩ := b_load hfl hq hN htr htk9 ht60 htd (r := 1) (by omega) B1 J1
    have hcs := c_same_t (q := q) hfl (by omega : 40 ≤ d) hf30 (Nat.le_refl f) (Nat.le_refl 10) (by omega : 10 ≤ 28) (C := C) (bo := bo) (ct := ct) (N := dr N) (fi := E.1) (se := E.2.1) (op := E.2.2.1) (a := a) (b := b) k n (dr_ni hN) hC ⟨hs60, hsd, hsk⟩ ⟨ht60, htd, htk⟩ hs ht (by omega)
    obtain ⟨B', O', J', Z', sm, hqs⟩ := q_same hfl hq hf30 (Nat.le_refl f) (Nat.le_refl 10) (by omega : 10 ≤ 28) (G := G) (bo := bo) (B := B2) (O := O) (J := J2) (Z := Z) (bod_sm hbo (fun r hr _ => sm_trans (s1 r (by omega)) (s2 r (by omega)))) ⟨hs60, hsd, hsk⟩ ⟨ht60, htd, htk⟩ (row_sm hs60 (s2 0 (by omega)) r1) r2
    have hsm : ∀ ρ, (ρ = 2 ∨ 64 ≤ ρ) → Sm B B' ρ := fun ρ hρ => sm_trans (sm_trans (s1 ρ (by omega)) (s2 ρ (by omega))) (sm ρ (by omega) (by omega) (by omega))
    rcases hcs with ⟨bb, f', w1, N', k', j', fi', se', op', c2, st, -⟩ | ⟨w1, N', k', j', E', c2, st, -⟩
    · rcases hqs with ⟨bb2, f2, w2, -, m2⟩ | ⟨w2, -⟩
      · rw [w1] at w2
        cases w2
        refine ⟨.inl bb, N', (fi', se', op', jn f, jn (f - f')), (F.1, jn ([] : List tm).length), k', j', bb, jn 0, B', O', J', (jn f, jn (f - f'), jn 0), Z', ?_, ?_, iv_step hiv st.1 st.2.1 hsm, ⟨rfl, rfl⟩, ?_⟩
        · unfold fJ_same
          exact bnd c1 (bnd c2 rfl)
        · unfold fm_same
          refine bnd m1 (ifp (by decide) (bnd l1 (bnd l2 (bnd m2 (ifp rfl ?_)))))
          cases bb
          · exact ifp rfl rfl
          · exact ifn (by decide) (ifn (by decide) rfl)
        · obtain ⟨-, -, s3, s4⟩ := st
          unfold Co
          omega
      · rw [w1] at w2
        cases w2
    · rcases hqs with ⟨bb2, f2, w2, -, m2⟩ | ⟨w2, u', m2⟩
      · rw [w1] at w2
        cases w2
      · refine ⟨.inr 2, N', E', (F.1, jn ([] : List tm).length), k' + 1, j' + 6, false, jn 2, B', O', J', (jn f, u', jn 3), Z', ?_, ?_, iv_step hiv st.1 st.2.1 hsm, .inr ⟨rfl, rfl⟩, ?_⟩
        · unfold fJ_same
          exact bnd c1 (bnd c2 rfl)
        · unfold fm_same
          exact bnd m1 (ifp (by decide) (bnd l1 (bnd l2 (bnd m2 (ifn (by decide) (ifp rfl rfl))))))
        · obtain ⟨-, -, s3, s4⟩ := st
          unfold Co
          omega
theorem b_e1 {e : Nat} (he : e = 2 ∨ e = 3) : ¬ jn e = (0 : Int32) := by rcases he with rfl | rfl <;> decide
/-- the level of what a term is, in check and declare: both sides up to the level -/
def Lq (q f : Nat) (fl d : Nat) (N : cN) (C : cC) (E : cE) (F : cF) (k n : Nat) (a : Nat) (T : cT) (G : cG) (B : cB) (O : cO) (J : cJ) (Y : cY) (Z : cZ) (ct : Nat → tm) (bo : Nat → Option tm) : Prop :=
  ∃ B1 J1, fm_load fl T B J (jn 63) (jn a) = some (B1, J1) ∧
  ((∃ e N' k' j' E' F' B' O' J' u' Y' Z', (e = 2 ∨ e = 3) ∧ fF_typeFound fl d (dr N) C (E.1, E.2.1, E.2.2.1, jn f, jn (f - f)) (F.1, jn ([] : List tm).length) k n (jn a) = some (.inr (e - 1), N', E', F', (k' + 1, j' + 6)) ∧ fm_toType fl G B1 O J1 (jn f, jn (f - f), jn 0) Y Z (jn 63) = some (B', O', J', (jn f, u', jn e), Y', Z') ∧ Nst (dr N) k n N' k' j' ∧ ∀ ρ, (ρ = 2 ∨ 64 ≤ ρ) → Sm B B' ρ) ∨
   (∃ N1 k1 j1 fi se op tt p f1 B2 O2 J2 Y2 Z2, fF_typeFound fl d (dr N) C (E.1, E.2.1, E.2.2.1, jn f, jn (f - f)) (F.1, jn ([] : List tm).length) k n (jn a) = some (.inl p, N1, (fi, se, op, jn f, jn (f - f1)), (tt, jn ([] : List tm).length), (k1, j1)) ∧ fm_toType fl G B1 O J1 (jn f, jn (f - f), jn 0) Y Z (jn 63) = some (B2, O2, J2, (jn f, jn (f - f1), jn 0), Y2, Z2) ∧
    ((∃ e N' k' j' E' x B' O' J' u', (e = 2 ∨ e = 3) ∧ fF_levelOf fl d N1 C (fi, se, op, jn f, jn (f - f1)) k1 j1 p = some (.inr (e - 1), N', E', (k' + 1, j' + 6)) ∧ fm_levelIn fl G B2 O2 J2 (jn f, jn (f - f1), jn 0) (jn 63) = some (x, B', O', J', (jn f, u', jn e)) ∧ Nst (dr N) k n N' k' j' ∧ ∀ ρ, (ρ = 2 ∨ 64 ≤ ρ) → Sm B B' ρ) ∨
     (∃ l f2 N' k' j' B' O' J', fF_levelOf fl d N1 C (fi, se, op, jn f, jn (f - f1)) k1 j1 p = some (.inl (jn l), N', (fi, se, op, jn f, jn (f - f2)), (k', j')) ∧ fm_levelIn fl G B2 O2 J2 (jn f, jn (f - f1), jn 0) (jn 63) = some (jn l, B', O', J', (jn f, jn (f - f2), jn 0)) ∧ Nst (dr N) k n N' k' j' ∧ f2 ≤ f ∧ nen N' + 80 * f2 ≤ nen (dr N) + 80 * f + 4800 ∧ ∀ ρ, (ρ = 2 ∨ 64 ≤ ρ) → Sm B B' ρ))))
theorem b_level {fl d q f a : Nat} (hfl : 10000 ≤ fl) (hd : 100 ≤ d) {N : cN} {C : cC} {P : cP} {T : cT} {G : cG} {H : cH} {B : cB} {ct : Nat → tm} {bo : Nat → Option tm} (h : Iv q N C P T G H B ct bo) (hf : f ≤ 30) (ha : a < nmt N) (E : cE) (F : cF) (k n : Nat) (O : cO) (J : cJ) (Y : cY) (Z : cZ) : Lq q f fl d N C E F k n a T G B O J Y Z ct bo := by
  obtain ⟨hN, hle, hT, hC, hG, hty, hbo, hrs⟩ := h
  have hq : q ≤ 16 := hC.2.1
  obtain ⟨t, ht, htr, hk, h60, hdp⟩ := tt_get hT ha
  have hct : ∀ c, c < q → sz (ct c) ≤ 60 ∧ dp (ct c) ≤ 12 ∧ okt 9 q 10 (ct c) := fun c hc => (hty c hc).2
  have hen : nen (dr N) = nle N := rfl
  have hcq := c_ty hfl hf (C := C) (bo := bo) hct t (Γ := []) (N := dr N) (n := f) (k := k) (j := n) (p := a) (d := d) (fi := E.1) (se := E.2.1) (tt := F.1) (op := E.2.2.1) (x := 0) (dr_ni hN) hC hk h60 (by simp only [List.length_nil]; omega) ht trivial (Nat.le_refl f) (by omega) (by omega)
  obtain ⟨B1, J1, l1, r1, s1⟩ := b_load hfl hq hN htr hk h60 hdp (r := 63) (by omega) B J
  have hbo1 := bod_sm hbo (fun r hr _ => s1 r (by omega))
  have hqt := q_toType hfl hq hf (G := G) (ct := ct) (bo := bo) (t := t) (B := B1) (O := O) (J := J1) (Y := Y) (Z := Z) hk h60 hdp r1 hbo1 (typ_sm hq hty (fun r hr => s1 r (by omega))) (Nat.le_refl f)
  refine ⟨B1, J1, l1, ?_⟩
  rcases hres : ty ct bo t [] f with e | ⟨R, f'⟩
  · rw [hres] at hcq hqt
    obtain ⟨he, N', k', j', E', F', c2, st, -⟩ := hcq
    obtain ⟨-, B', O', J', Z', Y', u', m2, sm⟩ := hqt
    exact .inl ⟨e, N', k', j', E', F', B', O', J', u', Y', Z', he, c2, m2, st, fun ρ hρ => sm_trans (s1 ρ (by omega)) (sm ρ hρ)⟩
  · rw [hres] at hcq hqt
    obtain ⟨hf', hRk, hR60, hRd, N1, k1, j1, fi, se, op, tt, p, c2, st, hRp, hcost, -⟩ := hcq
    obtain ⟨-, -, -, -, B2, O2, J2, Z2, Y2, m2, rB, sm⟩ := hqt
    refine .inr ⟨N1, k1, j1, fi, se, op, tt, jn p, f', B2, O2, J2, Y2, Z2, c2, m2, ?_⟩
    have hlc := c_level hfl (by omega : 40 ≤ d) hf hf' (Nat.le_refl 10) (by omega : 10 < 900) (N := N1) (C := C) (ct := ct) (bo := bo) (fi := fi) (se := se) (op := op) (p := p) (t := R) k1 j1 st.1 (ci_ex st.2.1 hC) hRk hRp hR60 hRd (by omega)
    obtain ⟨B', O', J', sm2, hql⟩ := q_level hfl (c := 10) (Nat.le_refl 10) (by omega) hq (r := 63) (by omega) hf (G := G) (bo := bo) (t := R) (B := B2) (O := O2) (J := J2) (bod_sm hbo1 (fun r hr _ => sm r (by omega))) hRk hR60 hRd rB hf'
    have hsm : ∀ ρ, (ρ = 2 ∨ 64 ≤ ρ) → Sm B B' ρ := fun ρ hρ => sm_trans (sm_trans (s1 ρ (by omega)) (sm ρ hρ)) (sm2 ρ (by omega))
    rcases hl : lev bo f' R with e | ⟨l, f2⟩
    · rw [hl] at hlc hql
      obtain ⟨he, N', k', j', E', c3, st2, -⟩ := hlc
      obtain ⟨-, x, u', m3⟩ := hql
      exact .inl ⟨e, N', k', j', E', x, B', O', J', u', he, c3, m3, nst_trans st st2, hsm⟩
    · rw [hl] at hlc hql
      obtain ⟨N', k', j', c3, st2, hcost2, -, hf2⟩ := hlc
      obtain ⟨-, -, m3⟩ := hql
      exact .inr ⟨l, f2, N', k', j', B', O', J', c3, m3, nst_trans st st2, by omega, by omega, hsm⟩
theorem b_check {fl d q : Nat} (hfl : 10000 ≤ fl) (hd : 100 ≤ d) {N : cN} {C : cC} {P : cP} {T : cT} {G : cG} {H : cH} {B : cB} {ct : Nat → tm} {bo : Nat → Option tm} (h : Iv q N C P T G H B ct bo) (E : cE) (F : cF) (k n : Nat) (U : cU) (O : cO) (J : cJ) (V : cV) (Y : cY) (Z : cZ) (p1 p2 p3 : Int32) :
    ∃ x N' E' F' k' n' y U' B' O' J' V' Y' Z', fJ_check fl d N C E F k n p1 p2 p3 = some (x, N', E', F', (k', n')) ∧ fm_check fl T G U B O J V Y Z p1 p2 p3 = some (y, U', B', O', J', V', Y', Z') ∧ Iv q N' C P T G H B' ct bo ∧ Rc x y U' ∧ Co N N' k n k' n' := by
  have hiv := h
  obtain ⟨hN, hle, hT, hC, hG, hty, hbo, hrs⟩ := h
  have hq : q ≤ 16 := hC.2.1
  have hen : nen (dr N) = nle N := rfl
  have hnc : ncap (dr N) = ncap N := rfl
  rcases b_begin hN hT E F k n U V p1 p2 p3 with ⟨c1, m1⟩ | ⟨a, b, f, rfl, rfl, rfl, ha, hb, hf, c1, m1⟩
  · refine ⟨.inr 0, N, E, F, k + 1, n + 6, false, jn 1, B, O, J, V, Y, Z, ?_, ?_, hiv, ⟨by omega, rfl⟩, by unfold Co; omega⟩
    · unfold fJ_check
      exact bnd c1 rfl
    · unfold fm_check
      exact bnd m1 (ifn (by decide) rfl)
  · obtain ⟨B1, J1, l1, hL⟩ := b_level hfl hd hiv hf hb E F k n O J Y Z
    rcases hL with ⟨e, N', k', j', E', F', B', O', J', u', Y', Z', he, c2, m2, st, sm⟩ | ⟨N1, k1, j1, fi, se, op, tt, p, f1, B2, O2, J2, Y2, Z2, c2, m2, hL⟩
    · refine ⟨.inr (e - 1), N', E', F', k' + 1, j' + 6, false, jn e, B', O', J', (jn f, u', jn e), Y', Z', ?_, ?_, iv_step hiv st.1 st.2.1 sm, ⟨by omega, ?_⟩, ?_⟩
      · unfold fJ_check
        exact bnd c1 (bnd c2 rfl)
      · unfold fm_check
        exact bnd m1 (ifp (by decide) (bnd l1 (bnd m2 (ifp (b_e1 he) (ifp (b_e1 he) (ifp (b_e1 he) (ifp rfl rfl)))))))
      · show jn e = jn (e - 1 + 1)
        rw [show e - 1 + 1 = e by omega]
      · obtain ⟨-, -, s3, s4⟩ := st
        unfold Co
        omega
    · rcases hL with ⟨e, N', k', j', E', x, B', O', J', u', he, c3, m3, st, sm⟩ | ⟨l, f2, N', k', j', B', O', J', c3, m3, st, hf2, hcost, sm⟩
      · refine ⟨.inr (e - 1), N', E', (tt, jn ([] : List tm).length), k' + 1, j' + 6, false, jn e, B', O', J', (jn f, u', jn e), Y2, Z2, ?_, ?_, iv_step hiv st.1 st.2.1 sm, ⟨by omega, ?_⟩, ?_⟩
        · unfold fJ_check
          exact bnd c1 (bnd c2 (bnd c3 rfl))
        · unfold fm_check
          exact bnd m1 (ifp (by decide) (bnd l1 (bnd m2 (ifn (by decide) (bnd m3 (ifp (b_e1 he) (ifp (b_e1 he) (ifp rfl rfl))))))))
        · show jn e = jn (e - 1 + 1)
          rw [show e - 1 + 1 = e by omega]
        · obtain ⟨-, -, s3, s4⟩ := st
          unfold Co
          omega
      · obtain ⟨s, hs, hstr, hsk, hs60, hsd⟩ := tt_get hT ha
        obtain ⟨t, ht, htr, htk9, ht60, htd⟩ := tt_get hT hb
        have htk : okt 10 q 10 t := okt_mono (by omega) (Nat.le_refl q) t (Nat.le_refl 10) htk9
        have hct : ∀ c, c < q → sz (ct c) ≤ 60 ∧ dp (ct c) ≤ 12 ∧ okt 9 q 10 (ct c) := fun c hc => (hty c hc).2
        have hCI := ci_ex st.2.1 hC
        have hcq := c_ty hfl hf (C := C) (bo := bo) hct s (Γ := []) (N := N') (n := f2) (k := k') (j := j') (p := a) (d := d) (fi := fi) (se := se) (tt := tt) (op := op) (x := 0) st.1 hCI hsk hs60 (by simp only [List.length_nil]; omega) (rp_ex st.2.1 s hs) trivial hf2 (by omega) (by omega)
        obtain ⟨B3, J3, l3, r3, s3⟩ := b_load hfl hq hN hstr hsk hs60 hsd (r := 63) (by omega) B' J'
        have hbo3 : Bod q G B3 bo := bod_sm hbo (fun r hr _ => sm_trans (sm r (by omega)) (s3 r (by omega)))
        have hqt := q_toType hfl hq hf (G := G) (ct := ct) (bo := bo) (t := s) (n := f2) (B := B3) (O := O') (J := J3) (Y := Y2) (Z := Z2) hsk hs60 hsd r3 hbo3 (typ_sm hq hty (fun r hr => sm_trans (sm r (by omega)) (s3 r (by omega)))) hf2
        rcases hres : ty ct bo s [] f2 with e | ⟨R, f3⟩
        · rw [hres] at hcq hqt
          obtain ⟨he, N4, k4, j4, E4, F4, c4, st4, -⟩ := hcq
          obtain ⟨-, B4, O4, J4, Z4, Y4, u4, m4, sm4⟩ := hqt
          have hst := nst_trans st st4
          refine ⟨.inr (e - 1), N4, E4, F4, k4 + 1, j4 + 6, false, jn e, B4, O4, J4, (jn f, u4, jn e), Y4, Z4, ?_, ?_, iv_step hiv hst.1 hst.2.1 (fun ρ hρ => sm_trans (sm_trans (sm ρ hρ) (s3 ρ (by omega))) (sm4 ρ hρ)), ⟨by omega, ?_⟩, ?_⟩
          · unfold fJ_check
            exact bnd c1 (bnd c2 (bnd c3 (bnd c4 rfl)))
          · unfold fm_check
            exact bnd m1 (ifp (by decide) (bnd l1 (bnd m2 (ifn (by decide) (bnd m3 (ifn (by decide) (bnd l3 (bnd m4 (ifp (b_e1 he) (ifp rfl rfl))))))))))
          · show jn e = jn (e - 1 + 1)
            rw [show e - 1 + 1 = e by omega]
          · obtain ⟨-, -, x3, x4⟩ := hst
            unfold Co
            omega
        · rw [hres] at hcq hqt
          obtain ⟨hf3, hRk, hR60, hRd, N4, k4, j4, fi4, se4, op4, tt4, p4, c4, st4, hRp, hcost4, -⟩ := hcq
          obtain ⟨-, -, -, -, B4, O4, J4, Z4, Y4, m4, rB4, sm4⟩ := hqt
          have hst := nst_trans st st4
          have hf33 : f3 ≤ f := by omega
          have hcs := c_same_t (q := q) hfl (by omega : 40 ≤ d) hf hf33 (Nat.le_refl 10) (by omega : 10 ≤ 28) (C := C) (bo := bo) (ct := ct) (N := N4) (fi := fi4) (se := se4) (op := op4) (a := p4) (b := b) k4 j4 st4.1 (ci_ex st4.2.1 hCI) ⟨hR60, hRd, hRk⟩ ⟨ht60, htd, htk⟩ hRp (rp_ex hst.2.1 t ht) (by omega)
          obtain ⟨B5, e5, r5, s5⟩ := q_copy hfl (to := 0) (fr := 63) (by omega) (by omega) (by omega) hR60 rB4
          obtain ⟨B6, J6, l6, r6, s6⟩ := b_load hfl hq hN htr htk9 ht60 htd (r := 1) (by omega) B5 J4
          have hbo6 : Bod q G B6 bo := bod_sm hbo3 (fun r hr _ => sm_trans (sm_trans (sm4 r (by omega)) (s5 r (by omega))) (s6 r (by omega)))
          obtain ⟨B7, O7, J7, Z7, sm7, hqs⟩ := q_same hfl hq hf hf33 (Nat.le_refl 10) (by omega : 10 ≤ 28) (G := G) (bo := bo) (B := B6) (O := O4) (J := J6) (Z := Z4) hbo6 ⟨hR60, hRd, hRk⟩ ⟨ht60, htd, htk⟩ (row_sm hR60 (s6 0 (by omega)) r5) r6
          have hsm : ∀ ρ, (ρ = 2 ∨ 64 ≤ ρ) → Sm B B7 ρ := fun ρ hρ => sm_trans (sm_trans (sm_trans (sm ρ hρ) (s3 ρ (by omega))) (sm4 ρ hρ)) (sm_trans (sm_trans (s5 ρ (by omega)) (s6 ρ (by omega))) (sm7 ρ (by omega) (by omega) (by omega)))
          rcases hcs with ⟨bb, f', w1, N8, k8, j8, fi', se', op', c8, st8, -⟩ | ⟨w1, N8, k8, j8, E8, c8, st8, -⟩
          · rcases hqs with ⟨bb2, f2', w2, -, m8⟩ | ⟨w2, -⟩
            · rw [w1] at w2
              cases w2
              have hst8 := nst_trans hst st8
              refine ⟨.inl bb, N8, (fi', se', op', jn f, jn (f - f')), (tt4, jn ([] : List tm).length), k8, j8, bb, jn 0, B7, O7, J7, (jn f, jn (f - f'), jn 0), Y4, Z7, ?_, ?_, iv_step hiv hst8.1 hst8.2.1 hsm, ⟨rfl, rfl⟩, ?_⟩
              · unfold fJ_check
                exact bnd c1 (bnd c2 (bnd c3 (bnd c4 (bnd c8 rfl))))
              · unfold fm_check
                refine bnd m1 (ifp (by decide) (bnd l1 (bnd m2 (ifn (by decide) (bnd m3 (ifn (by decide) (bnd l3 (bnd m4 (ifn (by decide) (bnd e5 (bnd l6 (bnd m8 ?_))))))))))))
                cases bb
                · exact ifp rfl rfl
                · exact ifn (by decide) (ifn (by decide) rfl)
              · obtain ⟨-, -, x3, x4⟩ := hst8
                unfold Co
                omega
            · rw [w1] at w2
              cases w2
          · rcases hqs with ⟨bb2, f2', w2, -, m8⟩ | ⟨w2, u', m8⟩
            · rw [w1] at w2
              cases w2
            · have hst8 := nst_trans hst st8
              refine ⟨.inr 2, N8, E8, (tt4, jn ([] : List tm).length), k8 + 1, j8 + 6, false, jn 3, B7, O7, J7, (jn f, u', jn 3), Y4, Z7, ?_, ?_, iv_step hiv hst8.1 hst8.2.1 hsm, ⟨by omega, rfl⟩, ?_⟩
              · unfold fJ_check
                exact bnd c1 (bnd c2 (bnd c3 (bnd c4 (bnd c8 rfl))))
              · unfold fm_check
                exact bnd m1 (ifp (by decide) (bnd l1 (bnd m2 (ifn (by decide) (bnd m3 (ifn (by decide) (bnd l3 (bnd m4 (ifn (by decide) (bnd e5 (bnd l6 (bnd m8 (ifp rfl rfl)))))))))))))
              · obtain ⟨-, -, x3, x4⟩ := hst8
                unfold Co
                omega
