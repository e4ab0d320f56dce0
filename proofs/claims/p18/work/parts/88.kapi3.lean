/-! ===== new constants: the class alone, and that they are well made ===== -/
section K
variable {fl d q : Nat} {N : cN} {C : cC} {ct : Nat → tm} {bo : Nat → Option tm}
theorem kv_new {N9 : cN} {R : tm} {ob : Option tm} {bv : Int32} {tp : Nat} (hq : q < 16) (hN : NI N9) (hle : nle N9 ≤ 120 + 60 * (q + 1)) (hT : Kt q N9) (hC : CI q (dr N9) C ct bo) (hct : Kc q ct)
    (hR : Rp (dr N9) tp R) (hRk : okt 9 q 10 R) (h60 : sz R ≤ 60) (hd : dp R ≤ 12)
    (hob : match ob with
      | some b => (∃ bp, bv = jn bp ∧ Rp (dr N9) bp b) ∧ sz b ≤ 60 ∧ dp b ≤ 12 ∧ okt 10 q 10 b
      | none => bv = jng) :
    Kv (q + 1) N9 (upd C.1 q (jn tp), upd C.2.1 q bv, jn (q + 1)) (xt q R ct) (xb q ob bo) := by
  refine ⟨hN, hle, fun p hp => ?_, ⟨rfl, hq, fun c hc => ?_⟩, fun c hc => ?_⟩
  · obtain ⟨t, g1, g2, g3⟩ := hT p hp
    exact ⟨t, g1, okt_mono (Nat.le_refl 9) (Nat.le_succ q) t (Nat.le_refl 10) g2, g3⟩
  · by_cases hcq : c = q
    · subst hcq
      refine ⟨⟨tp, if_pos rfl, by unfold xt; rw [if_pos rfl]; exact hR⟩, ?_⟩
      unfold xb
      rw [if_pos rfl]
      cases ob with
      | none => exact (if_pos rfl : upd C.2.1 c bv c = bv).trans hob
      | some b =>
        obtain ⟨⟨bp, g1, g2⟩, g4, g5, g6⟩ := hob
        exact ⟨bp, (if_pos rfl : upd C.2.1 c bv c = bv).trans g1, g2, g4, g5, okt_mono (Nat.le_refl 10) (Nat.le_succ c) b (Nat.le_refl 10) g6⟩
    · obtain ⟨⟨tp', g1, g2⟩, g3⟩ := hC.2.2 c (by omega)
      refine ⟨⟨tp', (if_neg hcq : upd C.1 q (jn tp) c = C.1 c).trans g1, by unfold xt; rw [if_neg hcq]; exact g2⟩, ?_⟩
      unfold xb
      rw [if_neg hcq]
      split
      · rename_i b e
        rw [e] at g3
        obtain ⟨bp, x1, x2, x3, x4, x5⟩ := g3
        exact ⟨bp, (if_neg hcq : upd C.2.1 q bv c = C.2.1 c).trans x1, x2, x3, x4, okt_mono (Nat.le_refl 10) (Nat.le_succ q) b (Nat.le_refl 10) x5⟩
      · rename_i e
        rw [e] at g3
        exact (if_neg hcq : upd C.2.1 q bv c = C.2.1 c).trans g3
  · by_cases hcq : c = q
    · subst hcq
      unfold xt
      rw [if_pos rfl]
      exact ⟨h60, hd, okt_mono (Nat.le_refl 9) (Nat.le_succ c) R (Nat.le_refl 10) hRk⟩
    · unfold xt
      rw [if_neg hcq]
      obtain ⟨g2, g3, g4⟩ := hct c (by omega)
      exact ⟨g2, g3, okt_mono (Nat.le_refl 9) (Nat.le_succ q) _ (Nat.le_refl 10) g4⟩
theorem k_declare (hfl : 10000 ≤ fl) (hd : 100 ≤ d) (h : Kv q N C ct bo) (hq16 : q < 16) (E : cE) (F : cF) (k n : Nat) {a f f1 f2 l : Nat} {t R : tm} (ha : a < nmt N) (hf : f ≤ 30) (ht : Rp (dr N) a t) (hk : okt 9 q 10 t) (h60 : sz t ≤ 60) (hdp : dp t ≤ 12) (hty : ty ct bo t [] f = .inr (R, f1)) (hlv : lev bo f1 R = .inr (l, f2)) :
    ∃ N' C' E' F' k' n', fJ_declare fl d N C E F k n (jn a) (jn f) = some (.inl (jn q), N', C', E', F', (k', n')) ∧ Kv (q + 1) N' C' (xt q t ct) (xb q none bo) ∧ Kx N N' k n k' n' ∧ nmt N' = nmt N := by
  have hiv := h
  obtain ⟨hN, hle, hT, hC, hct⟩ := h
  have hq : q ≤ 16 := hC.2.1
  have c1 := k_begin hN E F k n ha ha hf
  have hen : nen (dr N) = nle N := rfl
  have hfull := c_full hC
  rw [decide_eq_false (by omega)] at hfull
  have hcq := c_ty hfl hf (C := C) (bo := bo) hct t (Γ := []) (N := dr N) (n := f) (k := k) (j := n) (p := a) (d := d) (fi := E.1) (se := E.2.1) (tt := F.1) (op := E.2.2.1) (x := 0) (dr_ni hN) hC hk h60 (by simp only [List.length_nil]; omega) ht trivial (Nat.le_refl f) (by omega) (by omega)
  rw [hty] at hcq
  obtain ⟨hf', hRk, hR60, hRd, N1, k1, j1, fi, se, op, tt, p, c2, st, hRp, hcost, -⟩ := hcq
  have hlc := c_level hfl (by omega : 40 ≤ d) hf hf' (Nat.le_refl 10) (by omega : 10 < 900) (N := N1) (C := C) (ct := ct) (bo := bo) (fi := fi) (se := se) (op := op) (p := p) (t := R) k1 j1 st.1 (ci_ex st.2.1 hC) hRk hRp hR60 hRd (by omega)
  rw [hlv] at hlc
  obtain ⟨N', k', j', c3, st2, -⟩ := hlc
  have hst := nst_trans st st2
  have hx := dr_dr hst.2.1
  have hadd := c_cadd hC hq16 (jn a) (-1)
  have hle' : nle N' = nle N := hst.2.1.2.1
  have hkv := kv_ex hiv hst.1 hst.2.1
  refine ⟨N', _, (fi, se, op, jn f, jn (f - f2)), (tt, jn ([] : List tm).length), k', j', ?_, kv_new (ob := none) hq16 hst.1 (by omega) hkv.2.2.1 hkv.2.2.2.1 hct (rp_ex hx t ht) hk h60 hdp rfl, kx_ex hst, hst.2.1.1⟩
  unfold fJ_declare
  exact bnd hfull (ifp rfl (bnd c1 (bnd c2 (bnd c3 (bnd hadd rfl)))))
theorem k_define (hfl : 10000 ≤ fl) (hd : 100 ≤ d) (h : Kv q N C ct bo) (hq16 : q < 16) (E : cE) (F : cF) (Q : cQ) (k n : Nat) {a f f1 : Nat} {t R : tm} (ha : a < nmt N) (hf : f ≤ 30) (ht : Rp (dr N) a t) (hk : okt 9 q 10 t) (h60 : sz t ≤ 60) (hdp : dp t ≤ 12) (hty : ty ct bo t [] f = .inr (R, f1)) (htg : tg 1 (enc R) = false) :
    ∃ N' C' E' F' Q' k' n', fJ_define fl d N C E F Q k n (jn a) (jn f) = some (.inl (jn q), N', C', E', F', Q', (k', n')) ∧ Kv (q + 1) N' C' (xt q R ct) (xb q (some t) bo) ∧ Kx N N' k n k' n' ∧ nmt N' = nmt N := by
  have hiv := h
  obtain ⟨hN, hle, hT, hC, hct⟩ := h
  have hq : q ≤ 16 := hC.2.1
  have c1 := k_begin hN E F k n ha ha hf
  have hen : nen (dr N) = nle N := rfl
  have hnc : ncap (dr N) = ncap N := rfl
  have hfull := c_full hC
  rw [decide_eq_false (by omega)] at hfull
  have hcq := c_ty hfl hf (C := C) (bo := bo) hct t (Γ := []) (N := dr N) (n := f) (k := k) (j := n) (p := a) (d := d) (fi := E.1) (se := E.2.1) (tt := F.1) (op := E.2.2.1) (x := 0) (dr_ni hN) hC hk h60 (by simp only [List.length_nil]; omega) ht trivial (Nat.le_refl f) (by omega) (by omega)
  rw [hty] at hcq
  obtain ⟨hf', hRk, hR60, hRd, N', k', j', fi', se', op', tt', p', c2, st, hRp, -, -⟩ := hcq
  have hRw : wft R := wf9 hq hRk (by simp only [List.length_nil]; omega) hRd
  obtain ⟨qr, w1, sg⟩ := c_writeQ (P := Q) st.1 hRw hRp (by omega : dp R ≤ d) hR60
  have hlt := enc_lt R hRw
  have htq : fM_hasTooGreat_Q fl (qr, jn (sz R), Q.2.2) 1 = some false := by
    have := c_tgQ (fl := fl) (k := 1) (by omega) hR60 (qx := Q.2.2) (enc R) (qr := qr) (i := 0) hlt (by rw [enc_len]; omega) sg (fl - sz R - 1)
    rw [enc_len, show fl - sz R - 1 + sz R + 1 = fl by omega, htg] at this
    exact this
  have hRk9 : okt 9 q 10 R := okt_tg R hRk htg
  have hle' : nle N' = nle N := st.2.1.2.1
  have hend : nen (dr N') = nle N' := rfl
  have hncd : ncap (dr N') = ncap N' := rfl
  obtain ⟨N8, k8, j8, p8, c8, st8, hn8, r8⟩ := c_readn fl R (N := dr N') (d := d) (i := 0) (L := sz R) (k := k') (n := j') (qr := qr) (dr_ni st.1) hRw (by omega) (by omega) hR60 sg (by omega)
  have hlast : fJ_lasting fl d N' (qr, jn (sz R), Q.2.2) k' j' = some (jn p8, kpN N8, (qr, jn (sz R), jn (0 + sz R)), (k8, j8)) := by
    unfold fJ_lasting fM_read_Q
    exact bnd (c_drop N') (bnd (bnd c8 rfl) (bnd rfl rfl))
  have hx8 : Gx (dr N) (dr (kpN N8)) := gx_trans (gx_ex (dr_dr st.2.1)) (gx_trans (gx_ex st8.2.1) (kp_gx N8))
  have hmt8 : nmt (kpN N8) = nmt N := st8.2.1.1.trans st.2.1.1
  have hadd := c_cadd hC hq16 (jn p8) (jn a)
  have hk10 : okt 10 q 10 t := okt_mono (by omega) (Nat.le_refl q) t (Nat.le_refl 10) hk
  have hT8 : Kt q (kpN N8) := fun p hp => by
    obtain ⟨t', g1, g2⟩ := hT p (by omega)
    exact ⟨t', rp_gx hx8 t' g1, g2⟩
  have hkv := kv_new (N9 := kpN N8) (C := C) (R := R) (ob := some t) (bv := jn a) (tp := p8) hq16 (kp_ni st8.1) (by show nen N8 ≤ _; omega) hT8 (ci_gx hx8 hC) hct (rp_gx (kp_gx N8) R r8) hRk9 hR60 hRd ⟨⟨a, rfl, rp_gx hx8 t ht⟩, h60, hdp, hk10⟩
  refine ⟨kpN N8, _, (fi', se', op', jn f, jn (f - f1)), (tt', jn ([] : List tm).length), (qr, jn (sz R), jn (0 + sz R)), k8, j8, ?_, hkv, ⟨by omega, hx8, ?_, ?_⟩, hmt8⟩
  · unfold fJ_define
    exact bnd hfull (ifp rfl (bnd c1 (bnd c2 (bnd w1 (bnd htq (ifp rfl (bnd hlast (bnd hadd rfl))))))))
  · obtain ⟨-, -, x3, x4⟩ := st
    obtain ⟨-, -, y3, y4⟩ := st8
    have : ncap (kpN N8) = ncap N8 := rfl
    omega
  · obtain ⟨-, -, x3, x4⟩ := st
    obtain ⟨-, -, y3, y4⟩ := st8
    have : ncap (kpN N8) = ncap N8 := rfl
    omega
theorem k_typeOf (hd : 100 ≤ d) (h : Kv q N C ct bo) (P : cP) {c : Nat} (hc : c < q) : ∃ P' s, fJ_typeOf d N C P (jn c) = some (jn s, P') ∧ 1 ≤ s ∧ s ≤ 60 := by
  obtain ⟨hN, hle, hT, hC, hct⟩ := h
  have hq : q ≤ 16 := hC.2.1
  obtain ⟨⟨tp, g1, g2⟩, -⟩ := hC.2.2 c hc
  obtain ⟨h60, hdp, hk⟩ := hct c hc
  have hk10 : okt 10 q 10 (ct c) := okt_mono (by omega) (Nat.le_refl q) _ (Nat.le_refl 10) hk
  have hw : wft (ct c) := wf9 hq hk10 (by omega) hdp
  have ha := c_typeAt hC hc
  rw [g1] at ha
  obtain ⟨pr, w1, sg⟩ := c_writeP (P := P) hN hw (rp_ex (dr_ex hN) _ g2) (by omega : dp (ct c) ≤ d) h60
  refine ⟨(pr, jn (sz (ct c)), P.2.2), sz (ct c), ?_, sz_pos _, h60⟩
  unfold fJ_typeOf
  exact bnd (c_body hC hc).2 (ifp (by decide) (bnd ha (bnd w1 rfl)))
theorem k_hasBody (h : Kv q N C ct bo) {c : Nat} {b : tm} (hc : c < q) (hb : bo c = some b) : fJ_hasBody C (jn c) = some true := by
  obtain ⟨hN, hle, hT, hC, hct⟩ := h
  have hb1 := (c_body hC hc).1
  have hc2 := (hC.2.2 c hc).2
  rw [hb] at hc2
  obtain ⟨bp, g1, g2, -⟩ := hc2
  rw [g1] at hb1
  have hbp := vd_lt (dr_ni hN) (rp_vd g2)
  unfold fJ_hasBody
  refine bnd hb1 (ifn ?_ rfl)
  rw [show (-1 : Int32) = jng from rfl, j_neeq (by omega)]
  exact fun h => h
theorem k_constants (h : Kv q N C ct bo) : fJ_constants C = some (jn q) := by
  obtain ⟨-, -, -, hC, -⟩ := h
  obtain ⟨ctt, cb, cm⟩ := C
  have h1 : cm = jn q := hC.1
  subst h1
  rfl
theorem k_terms (h : Kv q N C ct bo) : fJ_terms N = some (jn (nmt N)) := by
  have h1 : N.2.2.2.2.2.2.1 = jn (nmt N) := h.1.1
  rw [← h1]
  rfl
theorem kv_ob (h : Kv q N C ct bo) : ∀ i b, i < q → bo i = some b → okt 10 q 10 b := ci_okt h.2.2.2.1
/-- a declared constant is well made -/
theorem g_decl (hg : Gk q ct bo) (h : Kv q N C ct bo) {t R : tm} {f f1 f2 l : Nat} (hk : okt 9 q 10 t) (hd : dp t ≤ 12) (hty : ty ct bo t [] f = .inr (R, f1)) (hlv : lev bo f1 R = .inr (l, f2)) : Gk (q + 1) (xt q t ct) (xb q none bo) := by
  have hq : q ≤ 16 := h.2.2.2.1.2.1
  obtain ⟨t1, k1, d1⟩ := ty_snd hq hg h.2.2.2.2 (kv_ob h) t (Γ := []) (n := f) hk (by simp only [List.length_nil]; omega) (fun i A h => by cases h) hty
  have hcl := (ty_cl hg t (Γ := []) (fun i A h => by cases h) t1).1
  have hl := lev_in (fun {A'} {m} h9 => by
    obtain ⟨kA', -, hh, -⟩ := okt_hf (by omega) (kv_ob h) f1 k1 h9
    refine okt_wft (by omega) (by omega) A' kA' ?_
    simp only [List.length_nil]
    rcases hh with ⟨rfl, -⟩ | ⟨-, hh, -⟩ <;> omega) hlv
  exact gk_new hg hcl t1 hl (fun b hb => by cases hb)
theorem g_def (hg : Gk q ct bo) (h : Kv q N C ct bo) {t R : tm} {f f1 : Nat} (hk : okt 9 q 10 t) (hd : dp t ≤ 12) (hty : ty ct bo t [] f = .inr (R, f1)) : Gk (q + 1) (xt q R ct) (xb q (some t) bo) := by
  have hq : q ≤ 16 := h.2.2.2.1.2.1
  obtain ⟨t1, k1, d1⟩ := ty_snd hq hg h.2.2.2.2 (kv_ob h) t (Γ := []) (n := f) hk (by simp only [List.length_nil]; omega) (fun i A h => by cases h) hty
  obtain ⟨c1, c2⟩ := ty_cl hg t (Γ := []) (fun i A h => by cases h) t1
  obtain ⟨S, n, s1, s2⟩ := ty_lev hg t wfc_nil t1
  refine gk_new hg c2 s1 s2 (fun b hb => ?_)
  cases hb
  exact ⟨c1, R, t1, conv_r _⟩
end K
