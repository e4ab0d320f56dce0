/-! ===== the steps of the law's loop ===== -/
abbrev y_K : Type := cN → cC → cE → cF → cP → cQ → Nat → Nat → Int32 → y_R
/-- what the rest of the loop does -/
def Kk (Bd : Nat) (i : Int32) (K : y_K) : Prop := ∀ (q : Nat) (N : cN) (C : cC) (E : cE) (F : cF) (P : cP) (Q : cQ) (k n : Nat) (ct : Nat → tm) (bo : Nat → Option tm) (J : Nat), Lw q N C ct bo J k n → J ≤ Bd → y_ok (K N C E F P Q k n (i + (1 : Int32)))
section S
variable {sl fl d q Bd : Nat} {xs : Nat → Int32} {i : Int32} {K : y_K} {N : cN} {C : cC} {ct : Nat → tm} {bo : Nat → Option tm} {J k n : Nat}
theorem j529 (h : Lw q N C ct bo J k n) (hJ : J ≤ 100000) (E : cE) (F : cF) (P : cP) (Q : cQ) : y_ok (jp_f_law_529 sl xs fl d K N C E F P Q k n) := by
  obtain ⟨hv, -, -, h4, h5⟩ := h
  have hc : ncap N ≤ 65536 := hv.1.2.2.2.2.2.2.2.2
  exact ⟨N, C, E, F, P, Q, k, n, rfl, by omega, by omega⟩
theorem j523 (hK : Kk Bd i K) (h : Lw q N C ct bo J k n) (hJ : J ≤ Bd) (E : cE) (F : cF) (P : cP) (Q : cQ) : y_ok (jp_f_law_523 sl xs fl d K N C E F P Q k n i) := hK q N C E F P Q k n ct bo J h hJ
theorem j465 (hfl : 10000 ≤ fl) (hd : 100 ≤ d) (hK : Kk Bd i K) (h : Lw q N C ct bo J k n) (hJ : J + 2 ≤ Bd) (E : cE) (F : cF) (P : cP) (Q : cQ) {r c : Nat} {t : tm} {v : Int32} (hc : c < q) (hb : bo c = some t) (h60 : sz t ≤ 60) (hdp : dp t ≤ 12) (hr30 : r ≤ 30) (hr : ∀ T f', hf bo 29 t = some (T, f') → f' + 1 + r = 30) (hv : v = jng ∨ ∃ nm, v = jn nm ∧ Tm q N nm (.leaf (5 + 10 * c))) :
    y_ok (jp_f_law_465 sl xs fl d K N C E F P Q k n i (jn r) (jn c) v) := by
  obtain ⟨P1, s, e1, hs1, hs60⟩ := k_typeOf hd h.1 P hc
  unfold jp_f_law_465
  refine y_bnd e1 (y_ifn ?_ ?_)
  · rw [jl1, j_lt (by omega) (by omega)]
    omega
  rcases hv with rfl | ⟨nm, rfl, hnm⟩
  · exact y_ifp (by decide) (j523 hK h (by omega) E F P1 Q)
  · have hnm9 : nmt N ≤ 120 := h.1.1.2.2.2.1
    have hnm0 : nm < nmt N := hnm.1
    refine y_ifn ?_ ?_
    · rw [jl0, j_lt (by omega) (by omega)]
      omega
    obtain ⟨r1, N1, E1, F1, P2, k1, n1, e2, l1, x1, ho⟩ := s_reduce hfl hd h (f := 0) hnm (by omega) E F P1
    have hr1 : r1 = -3 := by
      rcases ho with ⟨T, f', g1, -⟩ | ⟨-, g2⟩
      · rw [hf_c0 hb] at g1
        cases g1
      · exact g2
    subst hr1
    refine y_bnd e2 (y_ifn (by decide) ?_)
    obtain ⟨r2, N2, E2, F2, P3, k2, n2, e3, l2, x2, ho2⟩ := s_reduce hfl hd l1 (f := 30) (tm_kx x1 hnm) (by omega) E1 F1 P2
    refine y_bnd e3 ?_
    rcases ho2 with ⟨T, f', g1, rfl, g3, g4, g5⟩ | ⟨-, rfl⟩
    · have hT60 : sz T ≤ 60 := g3.2.1
      refine y_ifn ?_ ?_
      · rw [jl0, j_lt (by omega) (by omega)]
        omega
      have g1 : hf bo (29 + 1) (.leaf (5 + 10 * c)) = some (T, f') := g1
      rw [hf_c1 hb h60 hdp] at g1
      have hrr := hr T f' g1
      refine y_ifn ?_ ?_
      · rw [jl30, j_le (by omega) (by omega)]
        omega
      refine y_bnd g4 (y_ifp ?_ (j523 hK l2 (by omega) E2 F2 P3 Q))
      rw [jl1, j_add]
      rw [show 30 - f' = r + 1 by omega]
    · exact y_ifp (by decide) (j523 hK l2 (by omega) E2 F2 P3 Q)
theorem j450 (hfl : 10000 ≤ fl) (hd : 100 ≤ d) (hK : Kk Bd i K) (h : Lw q N C ct bo J k n) (hJ : J + 2 ≤ Bd) (E : cE) (F : cF) (P : cP) (Q : cQ) {r c : Nat} {t : tm} {v s0 : Int32} (hc : c < q) (hb : bo c = some t) (h60 : sz t ≤ 60) (hdp : dp t ≤ 12) (hr30 : r ≤ 30) (hr : ∀ T f', hf bo 29 t = some (T, f') → f' + 1 + r = 30) (hv : v = jng ∨ ∃ nm, v = jn nm ∧ Tm q N nm (.leaf (5 + 10 * c))) (hs : s0 = 1 ∨ s0 = -3) :
    y_ok (jp_f_law_450 sl xs fl d K N C E F P Q k n i (jn r) (jn c) v s0) := by
  unfold jp_f_law_450
  rcases hs with rfl | rfl
  · exact y_ifp rfl (j465 hfl hd hK h hJ E F P Q hc hb h60 hdp hr30 hr hv)
  · exact y_ifn (by decide) (y_ifn (by decide) (j465 hfl hd hK h hJ E F P Q hc hb h60 hdp hr30 hr hv))
theorem j412 (hfl : 10000 ≤ fl) (hd : 100 ≤ d) (hK : Kk Bd i K) (h : Lw q N C ct bo J k n) (hJ : J + 3 ≤ Bd) (E : cE) (F : cF) (P : cP) (Q : cQ) {r c a : Nat} {t : tm} (hc : c < q) (hb : bo c = some t) (hr30 : r ≤ 30) (hr : ∀ T f', hf bo 29 t = some (T, f') → f' + 1 + r = 30) (ht : Tm q N a t) :
    y_ok (jp_f_law_412 sl xs fl d K N C E F P Q k n i (jn a) (jn r) (jn c)) := by
  have hq : q ≤ 16 := h.1.2.2.2.1.2.1
  have h120 : nmt N ≤ 120 := h.1.1.2.2.2.1
  unfold jp_f_law_412
  refine y_ifp (jn_ge c (by omega)) ?_
  by_cases hm : nmt N < 120
  · have hk : okt 9 q 10 (.leaf (5 + 10 * c)) := by
      simp only [okt]
      omega
    obtain ⟨N1, e1, v1, y1, m1, r1⟩ := k_leaf h.1 hm hk (jn 0)
    rw [show (5 + 10 * c) % 10 = 5 by omega, show (5 + 10 * c) / 10 = c by omega] at e1
    have l1 := lw_ky h v1 y1
    have hnm : Tm q N1 (nmt N) (.leaf (5 + 10 * c)) := ⟨by omega, r1, hk, by simp only [sz]; omega, by simp only [dp]; omega⟩
    refine y_bnd e1 (y_ifp (jn_ge _ (by omega)) ?_)
    have hcv : conv bo (.leaf (5 + 10 * c)) t := by
      refine conv_red (red_1 (.inr ⟨by omega, ?_⟩))
      rw [show (5 + 10 * c) / 10 = c by omega]
      exact hb
    obtain ⟨r2, N2, E2, F2, k2, n2, e2, l2, x2, ho⟩ := s_same hfl hd l1 (f := 30) hnm (tm_ky y1 ht) (by omega) E F hcv
    exact y_bnd e2 (j450 hfl hd hK l2 (by omega) E2 F2 P Q hc hb ht.2.2.2.1 ht.2.2.2.2 hr30 hr (.inr ⟨nmt N, rfl, tm_kx x2 hnm⟩) ho)
  · refine y_bnd (k_full h.1 (by omega) _ _ _) (y_ifn (by decide) ?_)
    exact j450 hfl hd hK h (by omega) E F P Q hc hb ht.2.2.2.1 ht.2.2.2.2 hr30 hr (.inl rfl) (.inr rfl)
theorem j325 (hfl : 10000 ≤ fl) (hd : 100 ≤ d) (hK : Kk Bd i K) (h : Lw q N C ct bo J k n) (hJ : J + 5 ≤ Bd) (E : cE) (F : cF) (P : cP) (Q : cQ) {r a b f' f0 : Nat} {t t' T : tm} {v4 : Int32} (ht : Tm q N a t) (ht' : Tm q N b t') (hrd : rd bo t' = none) (hty : ty ct bo t [] 30 = .inr (T, f0)) (htg : tg 1 (enc T) = false) (hhf : hf bo 30 t = some (t', f')) (hr : f' + r = 30) :
    y_ok (jp_f_law_325 sl xs fl d K N C E F P Q k n i v4 (jn a) (jn r) (jn b)) := by
  have hq : q ≤ 16 := h.1.2.2.2.1.2.1
  unfold jp_f_law_325
  obtain ⟨r1, N1, E1, F1, P2, k1, n1, e1, l1, x1, ho⟩ := s_reduce hfl hd h (f := 0) ht' (by omega) E F P
  have hf0 : hf bo 0 t' = some (t', 0) := by
    simp only [hf, hrd]
  rcases ho with ⟨T1, f1, g1, rfl, g3, g4, g5⟩ | ⟨g1, -⟩
  · rw [hf0] at g1
    cases g1
    have hs60 : sz t' ≤ 60 := g3.2.1
    have hs1 := sz_pos t'
    refine y_bnd e1 (y_ifn ?_ (y_bnd g4 (y_ifp rfl ?_)))
    · rw [jl1, j_lt (by omega) (by omega)]
      omega
    by_cases hx : ((v4 >>> ((20 : Int32) &&& 31)) &&& (7 : Int32)) ≠ 0
    · exact y_ifp hx (j523 hK l1 (by omega) E1 F1 P2 Q)
    refine y_ifn hx (y_bnd (k_constants l1.1) ?_)
    by_cases h9 : 9 ≤ q
    · refine y_ifp ?_ (j523 hK l1 (by omega) E1 F1 P2 Q)
      rw [jl9, j_le (by omega) (by omega)]
      exact h9
    refine y_ifn ?_ ?_
    · rw [jl9, j_le (by omega) (by omega)]
      exact h9
    have ht1 := tm_kx x1 ht
    obtain ⟨N2, C2, E2, F2, Q2, k2, n2, e2, v2, x2, m2⟩ := k_define hfl hd l1.1 (by omega) E1 F1 Q k1 n1 (f := 30) ht1.1 (by omega) ht1.2.1 ht1.2.2.1 ht1.2.2.2.1 ht1.2.2.2.2 hty htg
    have g2 := g_def l1.2.1 l1.1 ht1.2.2.1 ht1.2.2.2.2 hty
    have e2' : fL_define fl d N1 C E1 F1 Q k1 n1 (jn a) (jn 30) = some (jn q, N2, C2, E2, F2, Q2, (k2, n2)) := by
      unfold fL_define
      exact bnd e2 rfl
    have l2 : Lw (q + 1) N2 C2 (xt q T ct) (xb q (some t) bo) (J + 1 + 1) k2 n2 := by
      obtain ⟨-, -, y3, y4, y5⟩ := l1
      obtain ⟨z1, z2, z3, z4⟩ := x2
      exact ⟨v2, g2, by omega, by omega, by omega⟩
    have hbq : xb q (some t) bo q = some t := if_pos rfl
    refine y_bnd e2' (y_ifp (jn_ge q (by omega)) (y_bnd (k_constants v2) (y_ifn ?_ (y_bnd (k_hasBody v2 (Nat.lt_succ_self q) hbq) (y_ifp (by decide) ?_)))))
    · rw [jl1, j_sub (by omega), Nat.add_sub_cancel]
      exact fun h => h rfl
    have hext : ∀ j, j < q → xb q (some t) bo j = bo j := fun j hj => if_neg (by omega)
    refine j412 hfl hd hK l2 (by omega) E2 F2 P2 Q2 (Nat.lt_succ_self q) hbq (by omega) (fun T1 f1 hh => ?_) (tm_q (tm_kx x2 ht1))
    rw [hf_ext hext (kv_ob l1.1) 29 (c := 10) (Nat.le_refl 10) (okt_mono (by omega) (Nat.le_refl q) t (Nat.le_refl 10) ht.2.2.1)] at hh
    have h30 := hf_mono 29 hh
    have hhf : hf bo (29 + 1) t = some (t', f') := hhf
    rw [h30] at hhf
    cases hhf
    omega
  · rw [hf0] at g1
    cases g1
theorem j312 (hfl : 10000 ≤ fl) (hd : 100 ≤ d) (hK : Kk Bd i K) (h : Lw q N C ct bo J k n) (hJ : J + 5 ≤ Bd) (E : cE) (F : cF) (P : cP) (Q : cQ) {r a b f' f0 : Nat} {t t' T : tm} {v4 v15 : Int32} (ht : Tm q N a t) (ht' : Tm q N b t') (hrd : rd bo t' = none) (hty : ty ct bo t [] 30 = .inr (T, f0)) (htg : tg 1 (enc T) = false) (hhf : hf bo 30 t = some (t', f')) (hr : f' + r = 30) (hs : v15 = 1 ∨ v15 = -3) :
    y_ok (jp_f_law_312 sl xs fl d K N C E F P Q k n i v4 (jn a) (jn r) (jn b) v15) := by
  unfold jp_f_law_312
  rcases hs with rfl | rfl
  · exact y_ifp rfl (j325 hfl hd hK h hJ E F P Q ht ht' hrd hty htg hhf hr)
  · exact y_ifn (by decide) (y_ifn (by decide) (j325 hfl hd hK h hJ E F P Q ht ht' hrd hty htg hhf hr))
theorem j241 (hfl : 10000 ≤ fl) (hd : 100 ≤ d) (hK : Kk Bd i K) (h : Lw q N C ct bo J k n) (hJ : J + 8 ≤ Bd) (E : cE) (F : cF) (P : cP) (Q : cQ) {a b f0 : Nat} {t T : tm} {v4 : Int32} (ht : Tm q N a t) (hT : Tm q N b T) (hty : ty ct bo t [] 30 = .inr (T, f0)) (htg : tg 1 (enc T) = false) :
    y_ok (jp_f_law_241 sl xs fl d K N C E F P Q k n i v4 (jn a) (jn b)) := by
  have hq : q ≤ 16 := h.1.2.2.2.1.2.1
  have hg := h.2.1
  have hbo := gk_bo hg
  have nil : ∀ (i : Nat) (A : tm), ([] : List tm)[i]? = some A → okt 9 q (10 + (([] : List tm).length - 1 - i)) A ∧ dp A ≤ 12 := fun i A h => by cases h
  obtain ⟨tT, -, -⟩ := ty_snd hq hg h.1.2.2.2.2 (kv_ob h.1) t (Γ := []) ht.2.2.1 (by have := ht.2.2.2.2; simp only [List.length_nil]; omega) nil hty
  obtain ⟨S, m, s1, s2⟩ := ty_lev hg t wfc_nil tT
  unfold jp_f_law_241
  obtain ⟨r1, N1, E1, F1, P1, k1, n1, e1, l1, x1, ho⟩ := s_reduce hfl hd h (f := 30) ht (by omega) E F P
  refine y_bnd e1 ?_
  rcases ho with ⟨t', f', g1, rfl, g3, g4, g5⟩ | ⟨-, rfl⟩
  · have hs60 : sz t' ≤ 60 := g3.2.1
    obtain ⟨w1, w2⟩ := hf_red 30 g1
    obtain ⟨T', u1, u2⟩ := ty_red hg w1 tT
    refine y_ifp (jn_ge _ (by omega)) (y_bnd g4 ?_)
    obtain ⟨v, N2, P2, e2, v2, y2, hv⟩ := k_keep hfl hd l1.1 g3 k1 n1
    have l2 := lw_ky l1 v2 y2
    refine y_bnd e2 ?_
    rcases hv with rfl | ⟨c, rfl, c1, c2, c3, c4, c5, -⟩
    · exact y_ifn (by decide) (j523 hK l2 (by omega) E1 F1 P2 Q)
    · have h120 : nmt N2 ≤ 120 := v2.1.2.2.2.1
      have hc : Tm q N2 c t' := ⟨c1, c2, c3, c4, c5⟩
      have ht2 := tm_ky y2 (tm_kx x1 ht)
      have hT2 := tm_ky y2 (tm_kx x1 hT)
      refine y_ifp (jn_ge _ (by omega)) ?_
      obtain ⟨r3, N3, E3, F3, k3, n3, e3, l3, x3, ho3⟩ := s_check hfl hd l2 (f := 30) hc hT2 (by omega) E1 F1 (chk_ok l2.1 hg c3 c5 hT.2.2.1 hT.2.2.2.2 u1 u2 s1 s2)
      obtain ⟨r4, N4, E4, F4, k4, n4, e4, l4, x4, ho4⟩ := s_same hfl hd l3 (f := 30) (tm_kx x3 ht2) (tm_kx x3 hc) (by omega) E3 F3 (conv_red w1)
      refine y_bnd e3 (y_bnd e4 ?_)
      rcases ho3 with ⟨-, rfl⟩ | ⟨-, rfl⟩
      · exact y_ifp rfl (j312 hfl hd hK l4 (by omega) E4 F4 P2 Q (tm_kx x4 (tm_kx x3 ht2)) (tm_kx x4 (tm_kx x3 hc)) w2 hty htg g1 (by omega) ho4)
      · exact y_ifn (by decide) (y_ifn (by decide) (j312 hfl hd hK l4 (by omega) E4 F4 P2 Q (tm_kx x4 (tm_kx x3 ht2)) (tm_kx x4 (tm_kx x3 hc)) w2 hty htg g1 (by omega) ho4))
  · exact y_ifn (by decide) (j523 hK l1 (by omega) E1 F1 P1 Q)
theorem j145 (hfl : 10000 ≤ fl) (hd : 100 ≤ d) (hK : Kk Bd i K) (h : Lw q N C ct bo J k n) (hJ : J + 12 ≤ Bd) (E : cE) (F : cF) (P : cP) (Q : cQ) {v4 s0 : Int32} (hs : s0 = jng ∨ ∃ a, a < nmt N ∧ s0 = jn a) :
    y_ok (jp_f_law_145 sl xs fl d K N C E F P Q k n i v4 s0) := by
  have hq : q ≤ 16 := h.1.2.2.2.1.2.1
  have h120 : nmt N ≤ 120 := h.1.1.2.2.2.1
  have hg := h.2.1
  have nil : ∀ (i : Nat) (A : tm), ([] : List tm)[i]? = some A → okt 9 q (10 + (([] : List tm).length - 1 - i)) A ∧ dp A ≤ 12 := fun i A h => by cases h
  unfold jp_f_law_145
  rcases hs with rfl | ⟨a, ha, rfl⟩
  · exact y_ifn (by decide) (j523 hK h (by omega) E F P Q)
  · obtain ⟨t, t1, t2, t3, t4⟩ := h.1.2.2.1 a ha
    have ht : Tm q N a t := ⟨ha, t1, t2, t3, t4⟩
    refine y_ifp (jn_ge _ (by omega)) ?_
    obtain ⟨r1, N1, E1, F1, P1, k1, n1, e1, l1, x1, ho⟩ := s_infer hfl hd h (f := 30) ht (by omega) E F P
    refine y_bnd e1 ?_
    rcases ho with ⟨T, f0, hty, rfl, hr⟩ | ⟨-, rfl⟩ | ⟨-, rfl⟩
    · have hT60 : sz T ≤ 60 := hr.2.1
      obtain ⟨tT, -, -⟩ := ty_snd hq hg h.1.2.2.2.2 (kv_ob h.1) t (Γ := []) t2 (by simp only [List.length_nil]; omega) nil hty
      obtain ⟨S, m, s1, s2⟩ := ty_lev hg t wfc_nil tT
      refine y_ifp (jn_ge _ (by omega)) ?_
      obtain ⟨v, N2, P2, e2, v2, y2, hv⟩ := k_keep hfl hd l1.1 hr k1 n1
      have l2 := lw_ky l1 v2 y2
      refine y_bnd e2 ?_
      rcases hv with rfl | ⟨b, rfl, c1, c2, c3, c4, c5, c6⟩
      · exact y_ifn (by decide) (j523 hK l2 (by omega) E1 F1 P2 Q)
      · have h1202 : nmt N2 ≤ 120 := v2.1.2.2.2.1
        have hb : Tm q N2 b T := ⟨c1, c2, c3, c4, c5⟩
        have ht2 := tm_ky y2 (tm_kx x1 ht)
        refine y_ifp (jn_ge _ (by omega)) ?_
        obtain ⟨r3, N3, E3, F3, P3, k3, n3, e3, l3, x3, ho3⟩ := s_infer hfl hd l2 (f := 30) hb (by omega) E1 F1 P2
        have hr3 : r3 ≠ -2 ∧ r3 ≠ -1 := by
          rcases ho3 with ⟨T3, f3, -, rfl, hr3⟩ | ⟨hbad, -⟩ | ⟨-, rfl⟩
          · have := hr3.2.1
            have := jn_neg (m := sz T3) (by omega)
            exact ⟨this.2.1, this.1⟩
          · exact absurd hbad (ty_cmp hq hg h.1.2.2.2.2 (kv_ob h.1) T (Γ := []) c3 (by simp only [List.length_nil]; omega) nil s1)
          · exact ⟨by decide, by decide⟩
        have hck := chk_ok (f := 30) l3.1 hg t2 t4 c3 c5 tT (conv_r T) s1 s2
        have ht3 := tm_kx x3 ht2
        have hb3 := tm_kx x3 hb
        obtain ⟨r4, N4, E4, F4, k4, n4, e4, l4, x4, ho4⟩ := s_check hfl hd l3 (f := 30) ht3 hb3 (by omega) E3 F3 hck
        refine y_bnd e3 (y_ifn hr3.1 (y_ifn hr3.2 (y_bnd e4 ?_)))
        rcases ho4 with ⟨-, rfl⟩ | ⟨hch, rfl⟩
        · exact y_ifp rfl (j241 hfl hd hK l4 (by omega) E4 F4 P3 Q (tm_kx x4 ht3) (tm_kx x4 hb3) hty c6)
        · obtain ⟨r5, N5, E5, F5, k5, n5, e5, l5, x5, ho5⟩ := s_check hfl hd l4 (f := 30) (tm_kx x4 ht3) (tm_kx x4 hb3) (by omega) E4 F4 hck
          refine y_ifn (by decide) (y_bnd e5 ?_)
          rcases ho5 with ⟨hch2, -⟩ | ⟨-, rfl⟩
          · rw [hch] at hch2
            cases hch2
          · exact y_ifp rfl (j241 hfl hd hK l5 (by omega) E5 F5 P3 Q (tm_kx x5 (tm_kx x4 ht3)) (tm_kx x5 (tm_kx x4 hb3)) hty c6)
    · exact y_ifn (by decide) (j523 hK l1 (by omega) E1 F1 P1 Q)
    · exact y_ifn (by decide) (j523 hK l1 (by omega) E1 F1 P1 Q)
theorem j128 (hfl : 10000 ≤ fl) (hd : 100 ≤ d) (hK : Kk Bd i K) (h : Lw q N C ct bo J k n) (hJ : J + 12 ≤ Bd) (E : cE) (F : cF) (P : cP) (Q : cQ) {v4 v5 s0 s1 : Int32} :
    y_ok (jp_f_law_128 sl xs fl d K N C E F P Q k n i v4 v5 s0 s1) := by
  unfold jp_f_law_128
  obtain ⟨v, N1, e1, v1, y1, hv⟩ := k_make h.1 s1 s0 v5
  exact y_bnd e1 (j145 hfl hd hK (lw_ky h v1 y1) hJ E F P Q hv)
theorem pk_if {c : Prop} {hd : Decidable c} {a b : Option Int32} (ha : ∃ v, a = some v) (hb : ∃ v, b = some v) : ∃ v, (@ite _ c hd a b) = some v := by
  by_cases h : c
  · rw [if_pos h]
    exact ha
  · rw [if_neg h]
    exact hb
theorem s_pick {x : Int32} {m : Nat} (h19 : 19 ≤ m) (h120 : m ≤ 120) : ∃ v, fL_pick x (jn m) = some v := by
  have h0 : ¬ ((jn m - (9 : Int32)) = 0) := by
    rw [jl9, jl0, j_sub (by omega), j_eq (by omega) (by omega)]
    omega
  unfold fL_pick
  rw [if_neg h0]
  repeat' (first | (refine pk_if ?_ ?_) | exact ⟨_, rfl⟩)
end S
theorem y_loop {L : Nat} (hL : L ≤ 260) {xs : Nat → Int32} {fl d : Nat} (hfl : 10000 ≤ fl) (hd : 100 ≤ d) (g : Nat) : ∀ {i w q : Nat} {N : cN} {C : cC} {E : cE} {F : cF} {P : cP} {Q : cQ} {k n : Nat} {ct : Nat → tm} {bo : Nat → Option tm} {J : Nat}, i + g = L → Lw q N C ct bo J k n → J ≤ 5 + 20 * i → y_ok (lp_f_law_23 L xs fl d (w + g + 1) N C E F P Q k n (jn i)) := by
  induction g with
  | zero =>
    intro i w q N C E F P Q k n ct bo J hi h hJ
    rw [lp_f_law_23]
    refine y_ifp ?_ (j529 h (by omega) E F P Q)
    rw [jlo, j_le (by omega) (by omega)]
    omega
  | succ g ih =>
    intro i w q N C E F P Q k n ct bo J hi h hJ
    have h120 : nmt N ≤ 120 := h.1.1.2.2.2.1
    have h19 : 19 ≤ nmt N := h.2.2.1
    have hK : Kk (5 + 20 * (i + 1)) (jn i) (lp_f_law_23 L xs fl d (w + g + 1)) := by
      intro q N C E F P Q k n ct bo J h hJ
      rw [show jn i + (1 : Int32) = jn (i + 1) from j_add i 1]
      exact ih (by omega) h hJ
    rw [show w + (g + 1) + 1 = w + g + 1 + 1 by omega, lp_f_law_23]
    refine y_ifn ?_ (y_bnd (k_terms h.1) ?_)
    · rw [jlo, j_le (by omega) (by omega)]
      omega
    by_cases h80 : 80 ≤ nmt N
    · refine y_ifp ?_ (j529 h (by omega) E F P Q)
      rw [jl80, j_le (by omega) (by omega)]
      exact h80
    refine y_ifn ?_ (y_ifn ?_ (y_bnd (k_terms h.1) ?_))
    · rw [jl80, j_le (by omega) (by omega)]
      exact h80
    · rw [jl0, j_lt (by omega) (by omega), j_nat (by omega)]
      omega
    obtain ⟨v1, p1⟩ := s_pick (x := (xs (jn i).toNatClampNeg >>> ((3 : Int32) &&& 31)) &&& (255 : Int32)) h19 h120
    obtain ⟨v2, p2⟩ := s_pick (x := (xs (jn i).toNatClampNeg >>> ((11 : Int32) &&& 31)) &&& (255 : Int32)) h19 h120
    refine y_bnd p1 (y_bnd (k_terms h.1) (y_bnd p2 ?_))
    generalize xs (jn i).toNatClampNeg = x
    by_cases c1 : (6 : Int32) ≤ (x &&& (7 : Int32))
    · refine y_ifp c1 ?_
      by_cases c2 : (x &&& (7 : Int32)) ≠ (6 : Int32)
      · refine y_ifp c2 ?_
        obtain ⟨v, N1, e1, u1, y1, hv⟩ := k_make h.1 (2 : Int32) v1 v2
        exact y_bnd e1 (j145 hfl hd hK (lw_ky h u1 y1) (by omega) E F P Q hv)
      · refine y_ifn c2 ?_
        by_cases c3 : ((x >>> ((19 : Int32) &&& 31)) &&& (1 : Int32)) ≠ 0
        · exact y_ifp c3 (j128 hfl hd hK h (by omega) E F P Q)
        · exact y_ifn c3 (j128 hfl hd hK h (by omega) E F P Q)
    · refine y_ifn c1 ?_
      obtain ⟨v, N1, e1, u1, y1, hv⟩ := k_make h.1 (4 : Int32) v1 v2
      exact y_bnd e1 (j145 hfl hd hK (lw_ky h u1 y1) (by omega) E F P Q hv)
theorem y_new : Ww 0 N0i C0i ctW0 boW0 [] 19 3783 0 :=
  ⟨⟨⟨rfl, rfl, rfl, by decide, by decide, by decide, by decide, by decide, by decide⟩, by decide, fun p hp => absurd hp (Nat.not_lt_zero p), ⟨rfl, by decide, fun c hc => absurd hc (Nat.not_lt_zero c)⟩, fun c hc => absurd hc (Nat.not_lt_zero c)⟩,
    ⟨fun i b h => (by cases h), fun c hc => absurd hc (Nat.not_lt_zero c)⟩, ⟨rfl, fun i t h => (by cases h)⟩, by decide, by decide⟩
theorem y_all {L : Nat} (hL : L ≤ 260) (xs : Nat → Int32) : y_ok (f_law8 L xs 10000 100 N0i C0i E0i F0i P0i Q0i 19 3783) := by
  obtain ⟨N', C', E', F', Q', k', n', e, w⟩ := w_world (fl := 10000) (d := 100) (Nat.le_refl _) (Nat.le_refl _) E0i F0i Q0i y_new
  unfold f_law8
  refine y_bnd e (y_ifp rfl ?_)
  obtain ⟨v, g, ts, k1, n1⟩ := w
  have hm : nmt N' = 19 := ts.1
  have := y_loop hL (xs := xs) (fl := 10000) (d := 100) (Nat.le_refl _) (Nat.le_refl _) L (i := 0) (w := 10000 - L - 1) (E := E') (F := F') (P := P0i) (Q := Q') (J := 5) (Nat.zero_add L) ⟨v, g, by omega, k1, n1⟩ (by omega)
  rw [show 10000 - L - 1 + L + 1 = 10000 by omega] at this
  exact this
