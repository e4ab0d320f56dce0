/-! ===== the class alone: what each call does, in the words of terms ===== -/
/-- the terms are terms -/
def Kt (q : Nat) (N : cN) : Prop := ∀ p, p < nmt N → ∃ t, Rp (dr N) p t ∧ okt 9 q 10 t ∧ sz t ≤ 60 ∧ dp t ≤ 12
def Kc (q : Nat) (ct : Nat → tm) : Prop := ∀ c, c < q → sz (ct c) ≤ 60 ∧ dp (ct c) ≤ 12 ∧ okt 9 q 10 (ct c)
def Kv (q : Nat) (N : cN) (C : cC) (ct : Nat → tm) (bo : Nat → Option tm) : Prop := NI N ∧ nle N ≤ 120 + 60 * q ∧ Kt q N ∧ CI q (dr N) C ct bo ∧ Kc q ct
/-- the result -/
def Kr (q : Nat) (P : cP) (t : tm) : Prop := okt 10 q 10 t ∧ sz t ≤ 60 ∧ dp t ≤ 12 ∧ P.2.1 = jn (sz t) ∧ Seg P.1 0 (enc t)
/-- from one call to the next -/
def Kx (N N' : cN) (k n k' n' : Nat) : Prop := nmt N ≤ nmt N' ∧ Gx (dr N) (dr N') ∧ k' + ncap N ≤ k + ncap N' + 1 ∧ n' + 10 * ncap N ≤ n + 10 * ncap N' + 6
theorem kx_ex {N N' : cN} {k n k' n' : Nat} (h : Nst (dr N) k n N' k' n') : Kx N N' k n k' n' := by
  obtain ⟨h1, h2, h3, h4⟩ := h
  have e : ncap (dr N) = ncap N := rfl
  have e2 : nmt N' = nmt N := h2.1
  exact ⟨by omega, gx_ex (dr_dr h2), by omega, by omega⟩
theorem kx_ex1 {N N' : cN} {k n k' n' : Nat} (h : Nst (dr N) k n N' k' n') : Kx N N' k n (k' + 1) (n' + 6) := by
  obtain ⟨h1, h2, h3, h4⟩ := h
  have e : ncap (dr N) = ncap N := rfl
  have e2 : nmt N' = nmt N := h2.1
  exact ⟨by omega, gx_ex (dr_dr h2), by omega, by omega⟩
theorem kx_refl (N : cN) (k n : Nat) : Kx N N k n k n := ⟨Nat.le_refl _, fun p h => ⟨h, rfl, rfl, rfl, rfl, rfl⟩, by omega, by omega⟩
theorem kv_ex {q : Nat} {N N' : cN} {C : cC} {ct : Nat → tm} {bo : Nat → Option tm} (h : Kv q N C ct bo) (hN' : NI N') (hx : Ex (dr N) N') : Kv q N' C ct bo := by
  obtain ⟨h1, h2, h3, h4, h5⟩ := h
  have hx2 := dr_dr hx
  have e : nle N' = nle N := hx.2.1
  have e2 : nmt N' = nmt N := hx.1
  refine ⟨hN', by omega, fun p hp => ?_, ci_ex hx2 h4, h5⟩
  obtain ⟨t, g1, g2⟩ := h3 p (by omega)
  exact ⟨t, rp_ex hx2 t g1, g2⟩
theorem k_begin {N : cN} (hN : NI N) (E : cE) (F : cF) (k n : Nat) {a b f : Nat} (ha : a < nmt N) (hb : b < nmt N) (hf : f ≤ 30) : fJ_begin N E F k n (jn a) (jn b) (jn f) = some (.inl (), dr N, (E.1, E.2.1, E.2.2.1, jn f, jn (f - f)), (F.1, jn ([] : List tm).length), (k, n)) := by
  have h120 : nmt N ≤ 120 := hN.2.2.2.1
  have is : ∀ x, x < nmt N → fN_isTerm N (jn x) = some true := by
    intro x hx
    rcases c_isTerm hN (jn x) with ⟨h1, -⟩ | ⟨-, h2⟩
    · exact h1
    · exact absurd rfl (h2 x hx)
  have h0 : ¬ jn f < jn 0 := by
    rw [j_lt (by omega) (by omega)]
    omega
  have h3 : jn f ≤ jn 30 := by
    rw [j_le (by omega) (by omega)]
    exact hf
  unfold fJ_begin
  rw [Nat.sub_self]
  exact bnd (is a ha) (ifn (by decide) (bnd (is b hb) (ifn (by decide) (ifn h0 (ifp h3 (bnd rfl (bnd rfl (bnd rfl rfl))))))))
section K
variable {fl d q : Nat} {N : cN} {C : cC} {ct : Nat → tm} {bo : Nat → Option tm}
theorem k_infer (hfl : 10000 ≤ fl) (hd : 100 ≤ d) (h : Kv q N C ct bo) (E : cE) (F : cF) (P : cP) (k n : Nat) {a f : Nat} {t : tm} (ha : a < nmt N) (hf : f ≤ 30) (ht : Rp (dr N) a t) (hk : okt 9 q 10 t) (h60 : sz t ≤ 60) (hdp : dp t ≤ 12) :
    match ty ct bo t [] f with
      | .inl e => (e = 2 ∨ e = 3) ∧ ∃ N' E' F' k' n', fJ_infer fl d N C E F P k n (jn a) (jn f) = some (.inr (e - 1), N', E', F', P, (k', n')) ∧ Kv q N' C ct bo ∧ Kx N N' k n k' n'
      | .inr (T, _) => ∃ N' E' F' P' k' n', fJ_infer fl d N C E F P k n (jn a) (jn f) = some (.inl (jn (sz T)), N', E', F', P', (k', n')) ∧ Kv q N' C ct bo ∧ Kx N N' k n k' n' ∧ Kr q P' T := by
  have hiv := h
  obtain ⟨hN, hle, hT, hC, hct⟩ := h
  have hq : q ≤ 16 := hC.2.1
  have c1 := k_begin hN E F k n ha ha hf
  have hen : nen (dr N) = nle N := rfl
  have hcq := c_ty hfl hf (C := C) (bo := bo) hct t (Γ := []) (N := dr N) (n := f) (k := k) (j := n) (p := a) (d := d) (fi := E.1) (se := E.2.1) (tt := F.1) (op := E.2.2.1) (x := 0) (dr_ni hN) hC hk h60 (by simp only [List.length_nil]; omega) ht trivial (Nat.le_refl f) (by omega) (by omega)
  rcases hres : ty ct bo t [] f with e | ⟨R, f'⟩
  · rw [hres] at hcq
    obtain ⟨he, N', k', j', E', F', c2, st, -⟩ := hcq
    refine ⟨he, N', E', F', k' + 1, j' + 6, ?_, kv_ex hiv st.1 st.2.1, kx_ex1 st⟩
    unfold fJ_infer
    exact bnd c1 (bnd c2 rfl)
  · rw [hres] at hcq
    obtain ⟨hf', hRk, hR60, hRd, N', k', j', fi', se', op', tt', p', c2, st, hRp, -, -⟩ := hcq
    have hRw : wft R := wf9 hq hRk (by simp only [List.length_nil]; omega) hRd
    obtain ⟨pr', w1, sg⟩ := c_writeP (P := P) st.1 hRw hRp (by omega : dp R ≤ d) hR60
    refine ⟨N', (fi', se', op', jn f, jn (f - f')), (tt', jn ([] : List tm).length), (pr', jn (sz R), P.2.2), k', j', ?_, kv_ex hiv st.1 st.2.1, kx_ex st, hRk, hR60, hRd, rfl, sg⟩
    unfold fJ_infer
    exact bnd c1 (bnd c2 (bnd w1 rfl))
theorem k_reduce (hfl : 10000 ≤ fl) (hd : 100 ≤ d) (h : Kv q N C ct bo) (E : cE) (F : cF) (P : cP) (k n : Nat) {a f : Nat} {t : tm} (ha : a < nmt N) (hf30 : f ≤ 30) (ht : Rp (dr N) a t) (hk9 : okt 9 q 10 t) (h60 : sz t ≤ 60) (hdp : dp t ≤ 12) :
    match hf bo f t with
      | none => ∃ N' E' F' k' n', fJ_reduce fl d N C E F P k n (jn a) (jn f) = some (.inr 2, N', E', F', P, (k', n')) ∧ Kv q N' C ct bo ∧ Kx N N' k n k' n'
      | some (T, f') => ∃ N' E' F' P' k' n', fJ_reduce fl d N C E F P k n (jn a) (jn f) = some (.inl (jn (sz T)), N', E', F', P', (k', n')) ∧ Kv q N' C ct bo ∧ Kx N N' k n k' n' ∧ Kr q P' T ∧ fJ_reduced E' = some (jn (f - f')) ∧ f' ≤ f := by
  have hiv := h
  obtain ⟨hN, hle, hT, hC, hct⟩ := h
  have hq : q ≤ 16 := hC.2.1
  have c1 := k_begin hN E F k n ha ha hf30
  have hk : okt 10 q 10 t := okt_mono (by omega) (Nat.le_refl q) t (Nat.le_refl 10) hk9
  have hen : nen (dr N) = nle N := rfl
  have hcq := c_head hfl (by omega : 40 ≤ d) hf30 (Nat.le_refl f) (Nat.le_refl 10) (by omega : 10 < 900) (N := dr N) (C := C) (bo := bo) (fi := E.1) (se := E.2.1) (op := E.2.2.1) (p := a) (t := t) k n (dr_ni hN) hC hk ht h60 hdp (by omega)
  rcases hres : hf bo f t with _ | ⟨R, f'⟩
  · rw [hres] at hcq
    obtain ⟨N', k', j', ma', c2, st, -⟩ := hcq
    refine ⟨N', (E.1, E.2.1, E.2.2.1, jn f, ma'), (F.1, jn ([] : List tm).length), k' + 1, j' + 6, ?_, kv_ex hiv st.1 st.2.1, kx_ex1 st⟩
    unfold fJ_reduce
    exact bnd c1 (bnd c2 rfl)
  · rw [hres] at hcq
    obtain ⟨N', k', j', p', c2, st, hRp, -⟩ := hcq
    obtain ⟨hRk, hle', hR, -⟩ := okt_hf (Nat.le_refl 10) (ci_okt hC) f hk hres
    have hR2 : sz R ≤ 60 ∧ dp R ≤ 12 := by
      rcases hR with ⟨rfl, -⟩ | ⟨h1, h2, -⟩
      · exact ⟨h60, hdp⟩
      · exact ⟨h1, h2⟩
    have hRw : wft R := wf9 hq hRk (by omega) hR2.2
    obtain ⟨pr', w1, sg⟩ := c_writeP (P := P) st.1 hRw hRp (by omega : dp R ≤ d) hR2.1
    refine ⟨N', (E.1, E.2.1, E.2.2.1, jn f, jn (f - f')), (F.1, jn ([] : List tm).length), (pr', jn (sz R), P.2.2), k', j', ?_, kv_ex hiv st.1 st.2.1, kx_ex st, ⟨hRk, hR2.1, hR2.2, rfl, sg⟩, rfl, hle'⟩
    unfold fJ_reduce
    exact bnd c1 (bnd c2 (bnd w1 rfl))
theorem k_same (hfl : 10000 ≤ fl) (hd : 100 ≤ d) (h : Kv q N C ct bo) (E : cE) (F : cF) (k n : Nat) {a b f : Nat} {s t : tm} (ha : a < nmt N) (hb : b < nmt N) (hf30 : f ≤ 30) (hs : Rp (dr N) a s) (hsk9 : okt 9 q 10 s) (hs60 : sz s ≤ 60) (hsd : dp s ≤ 12) (ht : Rp (dr N) b t) (htk9 : okt 9 q 10 t) (ht60 : sz t ≤ 60) (htd : dp t ≤ 12) :
    (∃ bb f', sw bo 2000 f [(s, t)] = some (some (bb, f')) ∧ ∃ N' E' F' k' n', fJ_same fl d N C E F k n (jn a) (jn b) (jn f) = some (.inl bb, N', E', F', (k', n')) ∧ Kv q N' C ct bo ∧ Kx N N' k n k' n') ∨
    (∃ N' E' F' k' n', fJ_same fl d N C E F k n (jn a) (jn b) (jn f) = some (.inr 2, N', E', F', (k', n')) ∧ Kv q N' C ct bo ∧ Kx N N' k n k' n') := by
  have hiv := h
  obtain ⟨hN, hle, hT, hC, hct⟩ := h
  have hq : q ≤ 16 := hC.2.1
  have c1 := k_begin hN E F k n ha hb hf30
  have hsk : okt 10 q 10 s := okt_mono (by omega) (Nat.le_refl q) s (Nat.le_refl 10) hsk9
  have htk : okt 10 q 10 t := okt_mono (by omega) (Nat.le_refl q) t (Nat.le_refl 10) htk9
  have hen : nen (dr N) = nle N := rfl
  rcases c_same_t (q := q) hfl (by omega : 40 ≤ d) hf30 (Nat.le_refl f) (Nat.le_refl 10) (by omega : 10 ≤ 28) (C := C) (bo := bo) (ct := ct) (N := dr N) (fi := E.1) (se := E.2.1) (op := E.2.2.1) (a := a) (b := b) k n (dr_ni hN) hC ⟨hs60, hsd, hsk⟩ ⟨ht60, htd, htk⟩ hs ht (by omega) with ⟨bb, f', w1, N', k', j', fi', se', op', c2, st, -⟩ | ⟨w1, N', k', j', E', c2, st, -⟩
  · refine .inl ⟨bb, f', w1, N', (fi', se', op', jn f, jn (f - f')), (F.1, jn ([] : List tm).length), k', j', ?_, kv_ex hiv st.1 st.2.1, kx_ex st⟩
    unfold fJ_same
    exact bnd c1 (bnd c2 rfl)
  · refine .inr ⟨N', E', (F.1, jn ([] : List tm).length), k' + 1, j' + 6, ?_, kv_ex hiv st.1 st.2.1, kx_ex1 st⟩
    unfold fJ_same
    exact bnd c1 (bnd c2 rfl)
/-- what check says, in the words of terms -/
def chk (ct : Nat → tm) (bo : Nat → Option tm) (s t : tm) (f : Nat) : Nat ⊕ Bool := match ty ct bo t [] f with
  | .inl e => .inl e
  | .inr (R, f1) => match lev bo f1 R with
    | .inl e => .inl e
    | .inr (_, f2) => match ty ct bo s [] f2 with
      | .inl e => .inl e
      | .inr (R2, f3) => match sw bo 2000 f3 [(R2, t)] with
        | some (some (b, _)) => .inr b
        | _ => .inl 3
theorem k_check (hfl : 10000 ≤ fl) (hd : 100 ≤ d) (h : Kv q N C ct bo) (E : cE) (F : cF) (k n : Nat) {a b f : Nat} {s t : tm} (ha : a < nmt N) (hb : b < nmt N) (hf : f ≤ 30) (hs : Rp (dr N) a s) (hsk9 : okt 9 q 10 s) (hs60 : sz s ≤ 60) (hsd : dp s ≤ 12) (ht : Rp (dr N) b t) (htk9 : okt 9 q 10 t) (ht60 : sz t ≤ 60) (htd : dp t ≤ 12) :
    match chk ct bo s t f with
      | .inl e => (e = 2 ∨ e = 3) ∧ ∃ N' E' F' k' n', fJ_check fl d N C E F k n (jn a) (jn b) (jn f) = some (.inr (e - 1), N', E', F', (k', n')) ∧ Kv q N' C ct bo ∧ Kx N N' k n k' n'
      | .inr bb => ∃ N' E' F' k' n', fJ_check fl d N C E F k n (jn a) (jn b) (jn f) = some (.inl bb, N', E', F', (k', n')) ∧ Kv q N' C ct bo ∧ Kx N N' k n k' n' := by
  have hiv := h
  obtain ⟨hN, hle, hT, hC, hct⟩ := h
  have hq : q ≤ 16 := hC.2.1
  have c1 := k_begin hN E F k n ha hb hf
  have htk : okt 10 q 10 t := okt_mono (by omega) (Nat.le_refl q) t (Nat.le_refl 10) htk9
  have hen : nen (dr N) = nle N := rfl
  have hcq := c_ty hfl hf (C := C) (bo := bo) hct t (Γ := []) (N := dr N) (n := f) (k := k) (j := n) (p := b) (d := d) (fi := E.1) (se := E.2.1) (tt := F.1) (op := E.2.2.1) (x := 0) (dr_ni hN) hC htk9 ht60 (by simp only [List.length_nil]; omega) ht trivial (Nat.le_refl f) (by omega) (by omega)
  unfold chk
  rcases hres : ty ct bo t [] f with e | ⟨R, f1⟩
  · rw [hres] at hcq
    obtain ⟨he, N', k', j', E', F', c2, st, -⟩ := hcq
    refine ⟨he, N', E', F', k' + 1, j' + 6, ?_, kv_ex hiv st.1 st.2.1, kx_ex1 st⟩
    unfold fJ_check
    exact bnd c1 (bnd c2 rfl)
  · rw [hres] at hcq
    obtain ⟨hf', hRk, hR60, hRd, N1, k1, j1, fi, se, op, tt, p, c2, st, hRp, hcost, -⟩ := hcq
    have hlc := c_level hfl (by omega : 40 ≤ d) hf hf' (Nat.le_refl 10) (by omega : 10 < 900) (N := N1) (C := C) (ct := ct) (bo := bo) (fi := fi) (se := se) (op := op) (p := p) (t := R) k1 j1 st.1 (ci_ex st.2.1 hC) hRk hRp hR60 hRd (by omega)
    simp only
    rcases hl : lev bo f1 R with e | ⟨l, f2⟩
    · rw [hl] at hlc
      obtain ⟨he, N', k', j', E', c3, st2, -⟩ := hlc
      have hst := nst_trans st st2
      refine ⟨he, N', E', (tt, jn ([] : List tm).length), k' + 1, j' + 6, ?_, kv_ex hiv hst.1 hst.2.1, kx_ex1 hst⟩
      unfold fJ_check
      exact bnd c1 (bnd c2 (bnd c3 rfl))
    · rw [hl] at hlc
      obtain ⟨N', k', j', c3, st2, hcost2, -, hf2⟩ := hlc
      have hst := nst_trans st st2
      have hCI := ci_ex hst.2.1 hC
      have hf22 : f2 ≤ f := by omega
      have hcq2 := c_ty hfl hf (C := C) (bo := bo) hct s (Γ := []) (N := N') (n := f2) (k := k') (j := j') (p := a) (d := d) (fi := fi) (se := se) (tt := tt) (op := op) (x := 0) hst.1 hCI hsk9 hs60 (by simp only [List.length_nil]; omega) (rp_ex hst.2.1 s hs) trivial hf22 (by omega) (by omega)
      simp only
      rcases hres2 : ty ct bo s [] f2 with e | ⟨R2, f3⟩
      · rw [hres2] at hcq2
        obtain ⟨he, N4, k4, j4, E4, F4, c4, st4, -⟩ := hcq2
        have hst4 := nst_trans hst st4
        refine ⟨he, N4, E4, F4, k4 + 1, j4 + 6, ?_, kv_ex hiv hst4.1 hst4.2.1, kx_ex1 hst4⟩
        unfold fJ_check
        exact bnd c1 (bnd c2 (bnd c3 (bnd c4 rfl)))
      · rw [hres2] at hcq2
        obtain ⟨hf3, hRk2, hR602, hRd2, N4, k4, j4, fi4, se4, op4, tt4, p4, c4, st4, hRp2, hcost4, -⟩ := hcq2
        have hst4 := nst_trans hst st4
        have hf33 : f3 ≤ f := by omega
        simp only
        rcases c_same_t (q := q) hfl (by omega : 40 ≤ d) hf hf33 (Nat.le_refl 10) (by omega : 10 ≤ 28) (C := C) (bo := bo) (ct := ct) (N := N4) (fi := fi4) (se := se4) (op := op4) (a := p4) (b := b) k4 j4 st4.1 (ci_ex st4.2.1 hCI) ⟨hR602, hRd2, hRk2⟩ ⟨ht60, htd, htk⟩ hRp2 (rp_ex hst4.2.1 t ht) (by omega) with ⟨bb, f', w1, N8, k8, j8, fi', se', op', c8, st8, -⟩ | ⟨w1, N8, k8, j8, E8, c8, st8, -⟩
        · rw [w1]
          have hst8 := nst_trans hst4 st8
          refine ⟨N8, (fi', se', op', jn f, jn (f - f')), (tt4, jn ([] : List tm).length), k8, j8, ?_, kv_ex hiv hst8.1 hst8.2.1, kx_ex hst8⟩
          unfold fJ_check
          exact bnd c1 (bnd c2 (bnd c3 (bnd c4 (bnd c8 rfl))))
        · rw [w1]
          have hst8 := nst_trans hst4 st8
          refine ⟨.inr rfl, N8, E8, (tt4, jn ([] : List tm).length), k8 + 1, j8 + 6, ?_, kv_ex hiv hst8.1 hst8.2.1, kx_ex1 hst8⟩
          unfold fJ_check
          exact bnd c1 (bnd c2 (bnd c3 (bnd c4 (bnd c8 rfl))))
end K
