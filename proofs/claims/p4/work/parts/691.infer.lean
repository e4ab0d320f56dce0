/-! ===== infer and reduce ===== -/
theorem b_infer {fl d q : Nat} (hfl : 10000 ≤ fl) (hd : 100 ≤ d) {N : cN} {C : cC} {P : cP} {T : cT} {G : cG} {H : cH} {B : cB} {ct : Nat → tm} {bo : Nat → Option tm} (h : Iv q N C P T G H B ct bo) (E : cE) (F : cF) (k n : Nat) (U : cU) (O : cO) (J : cJ) (V : cV) (Y : cY) (Z : cZ) (p1 p2 : Int32) :
    ∃ x N' E' F' P' k' n' y U' H' B' O' J' V' Y' Z', fJ_infer fl d N C E F P k n p1 p2 = some (x, N', E', F', P', (k', n')) ∧ fm_infer fl T G U H B O J V Y Z p1 p2 = some (y, U', H', B', O', J', V', Y', Z') ∧ Iv q N' C P' T G H' B' ct bo ∧ Rc x y U' ∧ Co N N' k n k' n' := by
  have hiv := h
  obtain ⟨hN, hle, hT, hC, hG, hty, hbo, hrs⟩ := h
  have hq : q ≤ 16 := hC.2.1
  rcases b_begin hN hT E F k n U V p1 p1 p2 with ⟨c1, m1⟩ | ⟨a, a2, f, rfl, -, rfl, ha, -, hf, c1, m1⟩
  · refine ⟨.inr 0, N, E, F, P, k + 1, n + 6, 0, jn 1, H, B, O, J, V, Y, Z, ?_, ?_, hiv, ⟨by omega, rfl⟩, by unfold Co; omega⟩
    · unfold fJ_infer
      exact bnd c1 rfl
    · unfold fm_infer
      exact bnd m1 (ifn (by decide) rfl)
  · obtain ⟨t, ht, htr, hk, h60, hdp⟩ := tt_get hT ha
    have hct : ∀ c, c < q → sz (ct c) ≤ 60 ∧ dp (ct c) ≤ 12 ∧ okt 9 q 10 (ct c) := fun c hc => (hty c hc).2
    have hen : nen (dr N) = nle N := rfl
    have hcq := c_ty hfl hf (C := C) (bo := bo) hct t (Γ := []) (N := dr N) (n := f) (k := k) (j := n) (p := a) (d := d) (fi := E.1) (se := E.2.1) (tt := F.1) (op := E.2.2.1) (x := 0) (dr_ni hN) hC hk h60 (by simp only [List.length_nil]; omega) ht trivial (Nat.le_refl f) (by omega) (by omega)
    obtain ⟨B1, J1, l1, r1, s1⟩ := b_load hfl hq hN htr hk h60 hdp (r := 63) (by omega) B J
    have hqt := q_toType hfl hq hf (G := G) (ct := ct) (bo := bo) (t := t) (B := B1) (O := O) (J := J1) (Y := Y) (Z := Z) hk h60 hdp r1 (bod_sm hbo (fun r hr _ => s1 r (by omega))) (typ_sm hq hty (fun r hr => s1 r (by omega))) (Nat.le_refl f)
    rcases hres : ty ct bo t [] f with e | ⟨R, f'⟩
    · rw [hres] at hcq hqt
      obtain ⟨he, N', k', j', E', F', c2, st, -⟩ := hcq
      obtain ⟨-, B', O', J', Z', Y', u', m2, sm⟩ := hqt
      refine ⟨.inr (e - 1), N', E', F', P, k' + 1, j' + 6, 0, jn e, H, B', O', J', (jn f, u', jn e), Y', Z', ?_, ?_, iv_step hiv st.1 st.2.1 (fun ρ hρ => sm_trans (s1 ρ (by omega)) (sm ρ hρ)), ⟨by omega, ?_⟩, ?_⟩
      · unfold fJ_infer
        exact bnd c1 (bnd c2 rfl)
      · unfold fm_infer
        refine bnd m1 (ifp (by decide) (bnd l1 (bnd m2 (ifp ?_ (bnd rfl rfl)))))
        rcases he with rfl | rfl <;> decide
      · show jn e = jn (e - 1 + 1)
        rw [show e - 1 + 1 = e by omega]
      · obtain ⟨-, -, s3, s4⟩ := st
        have : ncap (dr N) = ncap N := rfl
        unfold Co
        omega
    · rw [hres] at hcq hqt
      obtain ⟨hf', hRk, hR60, hRd, N', k', j', fi', se', op', tt', p', c2, st, hRp, -, -⟩ := hcq
      obtain ⟨-, -, -, -, B', O', J', Z', Y', m2, rB, sm⟩ := hqt
      have hRw : wft R := wf9 hq hRk (by simp only [List.length_nil]; omega) hRd
      obtain ⟨pr', w1, sg⟩ := c_writeP (P := P) st.1 hRw hRp (by omega : dp R ≤ d) hR60
      obtain ⟨B2, m3, r2, s2⟩ := b_setRes hfl H (by omega) (by omega) hR60 rB
      have hiv2 := iv_step hiv st.1 st.2.1 (fun ρ hρ => sm_trans (s1 ρ (by omega)) (sm ρ hρ))
      refine ⟨.inl (jn (sz R)), N', (fi', se', op', jn f, jn (f - f')), (tt', jn ([] : List tm).length), (pr', jn (sz R), P.2.2), k', j', jn (sz R), jn 0, jn 1, B2, O', J', (jn f, jn (f - f'), jn 0), Y', Z', ?_, ?_, iv_res hiv2 hRk hR60 hRd rfl sg r2 (fun ρ hρ => s2 ρ (by omega)), ⟨rfl, rfl⟩, ?_⟩
      · unfold fJ_infer
        exact bnd c1 (bnd c2 (bnd w1 rfl))
      · unfold fm_infer
        exact bnd m1 (ifp (by decide) (bnd l1 (bnd m2 (ifn (by decide) (bnd m3 rfl)))))
      · obtain ⟨-, -, s3, s4⟩ := st
        have : ncap (dr N) = ncap N := rfl
        unfold Co
        omega
theorem b_reduce {fl d q : Nat} (hfl : 10000 ≤ fl) (hd : 100 ≤ d) {N : cN} {C : cC} {P : cP} {T : cT} {G : cG} {H : cH} {B : cB} {ct : Nat → tm} {bo : Nat → Option tm} (h : Iv q N C P T G H B ct bo) (E : cE) (F : cF) (k n : Nat) (U : cU) (O : cO) (J : cJ) (V : cV) (p1 p2 : Int32) :
    ∃ x N' E' F' P' k' n' y U' H' B' O' J' V', fJ_reduce fl d N C E F P k n p1 p2 = some (x, N', E', F', P', (k', n')) ∧ fm_reduce fl T G U H B O J V p1 p2 = some (y, U', H', B', O', J', V') ∧ Iv q N' C P' T G H' B' ct bo ∧ Rd x y U' ∧ Co N N' k n k' n' := by
  have hiv := h
  obtain ⟨hN, hle, hT, hC, hG, hty, hbo, hrs⟩ := h
  have hq : q ≤ 16 := hC.2.1
  rcases b_begin hN hT E F k n U V p1 p1 p2 with ⟨c1, m1⟩ | ⟨a, a2, f, rfl, -, rfl, ha, -, hf30, c1, m1⟩
  · refine ⟨.inr 0, N, E, F, P, k + 1, n + 6, 0, jn 1, H, B, O, J, V, ?_, ?_, hiv, .inl ⟨rfl, rfl⟩, by unfold Co; omega⟩
    · unfold fJ_reduce
      exact bnd c1 rfl
    · unfold fm_reduce
      exact bnd m1 (ifn (by decide) rfl)
  · obtain ⟨t, ht, htr, hk9, h60, hdp⟩ := tt_get hT ha
    have hk : okt 10 q 10 t := okt_mono (by omega) (Nat.le_refl q) t (Nat.le_refl 10) hk9
    have hen : nen (dr N) = nle N := rfl
    have hcq := c_head hfl (by omega : 40 ≤ d) hf30 (Nat.le_refl f) (Nat.le_refl 10) (by omega : 10 < 900) (N := dr N) (C := C) (bo := bo) (fi := E.1) (se := E.2.1) (op := E.2.2.1) (p := a) (t := t) k n (dr_ni hN) hC hk ht h60 hdp (by omega)
    obtain ⟨B1, J1, l1, r1, s1⟩ := b_load hfl hq hN htr hk9 h60 hdp (r := 63) (by omega) B J
    obtain ⟨B', O', J', sm, hqt⟩ := q_toHead hfl (c := 10) (Nat.le_refl 10) (by omega) hq (r := 63) (by omega) hf30 (G := G) (bo := bo) (t := t) (B := B1) (O := O) (J := J1) (bod_sm hbo (fun r hr _ => s1 r (by omega))) hk h60 hdp r1 (Nat.le_refl f)
    rcases hres : hf bo f t with _ | ⟨R, f'⟩
    · rw [hres] at hcq hqt
      obtain ⟨N', k', j', ma', c2, st, -⟩ := hcq
      obtain ⟨u', m2⟩ := hqt
      refine ⟨.inr 2, N', (E.1, E.2.1, E.2.2.1, jn f, ma'), (F.1, jn ([] : List tm).length), P, k' + 1, j' + 6, 0, jn 2, H, B', O', J', (jn f, u', jn 3), ?_, ?_, iv_step hiv st.1 st.2.1 (fun ρ hρ => sm_trans (s1 ρ (by omega)) (sm ρ (by omega))), .inr ⟨rfl, rfl⟩, ?_⟩
      · unfold fJ_reduce
        exact bnd c1 (bnd c2 rfl)
      · unfold fm_reduce
        exact bnd m1 (ifp (by decide) (bnd l1 (bnd m2 (ifp (by decide) (bnd rfl rfl)))))
      · obtain ⟨-, -, s3, s4⟩ := st
        have : ncap (dr N) = ncap N := rfl
        unfold Co
        omega
    · rw [hres] at hcq hqt
      obtain ⟨N', k', j', p', c2, st, hRp, -⟩ := hcq
      obtain ⟨rB, m2⟩ := hqt
      obtain ⟨hRk, -, hR, -⟩ := okt_hf (Nat.le_refl 10) (ci_okt hC) f hk hres
      have hR2 : sz R ≤ 60 ∧ dp R ≤ 12 := by
        rcases hR with ⟨rfl, -⟩ | ⟨h1, h2, -⟩
        · exact ⟨h60, hdp⟩
        · exact ⟨h1, h2⟩
      have hRw : wft R := wf9 hq hRk (by omega) hR2.2
      obtain ⟨pr', w1, sg⟩ := c_writeP (P := P) st.1 hRw hRp (by omega : dp R ≤ d) hR2.1
      obtain ⟨B2, m3, r2, s2⟩ := b_setRes hfl H (by omega) (by omega) hR2.1 rB
      have hiv2 := iv_step hiv st.1 st.2.1 (fun ρ hρ => sm_trans (s1 ρ (by omega)) (sm ρ (by omega)))
      refine ⟨.inl (jn (sz R)), N', (E.1, E.2.1, E.2.2.1, jn f, jn (f - f')), (F.1, jn ([] : List tm).length), (pr', jn (sz R), P.2.2), k', j', jn (sz R), jn 0, jn 1, B2, O', J', (jn f, jn (f - f'), jn 0), ?_, ?_, iv_res hiv2 hRk hR2.1 hR2.2 rfl sg r2 (fun ρ hρ => s2 ρ (by omega)), ⟨rfl, rfl⟩, ?_⟩
      · unfold fJ_reduce
        exact bnd c1 (bnd c2 (bnd w1 rfl))
      · unfold fm_reduce
        exact bnd m1 (ifp (by decide) (bnd l1 (bnd m2 (ifn (by decide) (bnd m3 rfl)))))
      · obtain ⟨-, -, s3, s4⟩ := st
        have : ncap (dr N) = ncap N := rfl
        unfold Co
        omega
