/-! ===== the law's loop ===== -/
abbrev y_R : Type := Option (Bool × cN × cC × cE × cF × cP × cQ × (Nat × Nat))
def y_ok (r : y_R) : Prop := ∃ N' C' E' F' P' Q' k' n', r = some (true, N', C', E', F', P', Q', (k', n')) ∧ k' ≤ 600130 ∧ n' ≤ 7301080
theorem y_ifp {c : Prop} {hd : Decidable c} {a b : y_R} (h : c) (hk : y_ok a) : y_ok (@ite _ c hd a b) := by
  rw [if_pos h]
  exact hk
theorem y_ifn {c : Prop} {hd : Decidable c} {a b : y_R} (h : ¬ c) (hk : y_ok b) : y_ok (@ite _ c hd a b) := by
  rw [if_neg h]
  exact hk
theorem y_bnd {α : Type} {x : Option α} {a : α} {f : α → y_R} (h : x = some a) (hk : y_ok (f a)) : y_ok (x.bind f) := by
  rw [h]
  exact hk
def Lw (q : Nat) (N : cN) (C : cC) (ct : Nat → tm) (bo : Nat → Option tm) (J k n : Nat) : Prop := Kv q N C ct bo ∧ Gk q ct bo ∧ 19 ≤ nmt N ∧ k + 512 ≤ 19 + ncap N + J ∧ n + 5120 ≤ 3783 + 10 * ncap N + 6 * J
def Tm (q : Nat) (N : cN) (a : Nat) (t : tm) : Prop := a < nmt N ∧ Rp (dr N) a t ∧ okt 9 q 10 t ∧ sz t ≤ 60 ∧ dp t ≤ 12
theorem tm_kx {q : Nat} {N N' : cN} {a : Nat} {t : tm} {k n k' n' : Nat} (hx : Kx N N' k n k' n') (h : Tm q N a t) : Tm q N' a t := ⟨Nat.lt_of_lt_of_le h.1 hx.1, rp_gx hx.2.1 t h.2.1, h.2.2⟩
theorem tm_ky {q : Nat} {N N' : cN} {a : Nat} {t : tm} (hx : Ky N N') (h : Tm q N a t) : Tm q N' a t := ⟨Nat.lt_of_lt_of_le h.1 hx.1, rp_gx hx.2.1 t h.2.1, h.2.2⟩
theorem tm_q {q : Nat} {N : cN} {a : Nat} {t : tm} (h : Tm q N a t) : Tm (q + 1) N a t := ⟨h.1, h.2.1, okt_mono (Nat.le_refl 9) (Nat.le_succ q) t (Nat.le_refl 10) h.2.2.1, h.2.2.2⟩
theorem lw_kx {q : Nat} {N N' : cN} {C : cC} {ct : Nat → tm} {bo : Nat → Option tm} {J k n k' n' : Nat} (h : Lw q N C ct bo J k n) (hv : Kv q N' C ct bo) (hx : Kx N N' k n k' n') : Lw q N' C ct bo (J + 1) k' n' := by
  obtain ⟨-, h2, h3, h4, h5⟩ := h
  obtain ⟨x1, x2, x3, x4⟩ := hx
  exact ⟨hv, h2, by omega, by omega, by omega⟩
theorem lw_ky {q : Nat} {N N' : cN} {C : cC} {ct : Nat → tm} {bo : Nat → Option tm} {J k n : Nat} (h : Lw q N C ct bo J k n) (hv : Kv q N' C ct bo) (hx : Ky N N') : Lw q N' C ct bo J k n := by
  obtain ⟨-, h2, h3, h4, h5⟩ := h
  obtain ⟨x1, x2, x3, x4⟩ := hx
  exact ⟨hv, h2, by omega, by omega, by omega⟩
theorem jn_ge (m : Nat) (h : m < 2147483648) : (0 : Int32) ≤ jn m := by
  rw [jl0, j_le (by omega) h]
  exact Nat.zero_le m
theorem jn_neg {m : Nat} (h : m < 2147483648) : jn m ≠ -1 ∧ jn m ≠ -2 ∧ jn m ≠ -3 := by
  refine ⟨fun e => ?_, fun e => ?_, fun e => ?_⟩
  · have := jn_ge m h
    rw [e] at this
    exact absurd this (by decide)
  · have := jn_ge m h
    rw [e] at this
    exact absurd this (by decide)
  · have := jn_ge m h
    rw [e] at this
    exact absurd this (by decide)
section L
variable {fl d q : Nat} {N : cN} {C : cC} {ct : Nat → tm} {bo : Nat → Option tm} {J k n : Nat}
theorem s_infer (hfl : 10000 ≤ fl) (hd : 100 ≤ d) (h : Lw q N C ct bo J k n) {a f : Nat} {t : tm} (ht : Tm q N a t) (hf : f ≤ 30) (E : cE) (F : cF) (P : cP) :
    ∃ r N' E' F' P' k' n', fL_infer fl d N C E F P k n (jn a) (jn f) = some (r, N', E', F', P', (k', n')) ∧ Lw q N' C ct bo (J + 1) k' n' ∧ Kx N N' k n k' n' ∧
      ((∃ T f', ty ct bo t [] f = .inr (T, f') ∧ r = jn (sz T) ∧ Kr q P' T) ∨ (ty ct bo t [] f = .inl 2 ∧ r = -2) ∨ (ty ct bo t [] f = .inl 3 ∧ r = -3)) := by
  have h1 := k_infer hfl hd h.1 E F P k n ht.1 hf ht.2.1 ht.2.2.1 ht.2.2.2.1 ht.2.2.2.2
  rcases hty : ty ct bo t [] f with e | ⟨T, f'⟩
  · rw [hty] at h1
    obtain ⟨he, N', E', F', k', n', g1, g2, g3⟩ := h1
    rcases he with rfl | rfl
    · refine ⟨-2, N', E', F', P, k', n', ?_, lw_kx h g2 g3, g3, .inr (.inl ⟨rfl, rfl⟩)⟩
      unfold fL_infer
      exact bnd g1 (ifn (by decide) (ifp rfl rfl))
    · refine ⟨-3, N', E', F', P, k', n', ?_, lw_kx h g2 g3, g3, .inr (.inr ⟨rfl, rfl⟩)⟩
      unfold fL_infer
      exact bnd g1 (ifn (by decide) (ifn (by decide) (ifp rfl rfl)))
  · rw [hty] at h1
    obtain ⟨N', E', F', P', k', n', g1, g2, g3, g4⟩ := h1
    refine ⟨_, N', E', F', P', k', n', ?_, lw_kx h g2 g3, g3, .inl ⟨T, f', rfl, rfl, g4⟩⟩
    unfold fL_infer
    exact bnd g1 rfl
theorem s_reduce (hfl : 10000 ≤ fl) (hd : 100 ≤ d) (h : Lw q N C ct bo J k n) {a f : Nat} {t : tm} (ht : Tm q N a t) (hf30 : f ≤ 30) (E : cE) (F : cF) (P : cP) :
    ∃ r N' E' F' P' k' n', fL_reduce fl d N C E F P k n (jn a) (jn f) = some (r, N', E', F', P', (k', n')) ∧ Lw q N' C ct bo (J + 1) k' n' ∧ Kx N N' k n k' n' ∧
      ((∃ T f', hf bo f t = some (T, f') ∧ r = jn (sz T) ∧ Kr q P' T ∧ fJ_reduced E' = some (jn (f - f')) ∧ f' ≤ f) ∨ (hf bo f t = none ∧ r = -3)) := by
  have h1 := k_reduce hfl hd h.1 E F P k n ht.1 hf30 ht.2.1 ht.2.2.1 ht.2.2.2.1 ht.2.2.2.2
  rcases hty : hf bo f t with _ | ⟨T, f'⟩
  · rw [hty] at h1
    obtain ⟨N', E', F', k', n', g1, g2, g3⟩ := h1
    refine ⟨-3, N', E', F', P, k', n', ?_, lw_kx h g2 g3, g3, .inr ⟨rfl, rfl⟩⟩
    unfold fL_reduce
    exact bnd g1 (ifn (by decide) (ifp rfl rfl))
  · rw [hty] at h1
    obtain ⟨N', E', F', P', k', n', g1, g2, g3, g4, g5, g6⟩ := h1
    refine ⟨_, N', E', F', P', k', n', ?_, lw_kx h g2 g3, g3, .inl ⟨T, f', rfl, rfl, g4, g5, g6⟩⟩
    unfold fL_reduce
    exact bnd g1 rfl
theorem s_same (hfl : 10000 ≤ fl) (hd : 100 ≤ d) (h : Lw q N C ct bo J k n) {a b f : Nat} {s t : tm} (hs : Tm q N a s) (ht : Tm q N b t) (hf : f ≤ 30) (E : cE) (F : cF) (hc : conv bo s t) :
    ∃ r N' E' F' k' n', fL_same fl d N C E F k n (jn a) (jn b) (jn f) = some (r, N', E', F', (k', n')) ∧ Lw q N' C ct bo (J + 1) k' n' ∧ Kx N N' k n k' n' ∧ (r = 1 ∨ r = -3) := by
  rcases k_same hfl hd h.1 E F k n hs.1 ht.1 hf hs.2.1 hs.2.2.1 hs.2.2.2.1 hs.2.2.2.2 ht.2.1 ht.2.2.1 ht.2.2.2.1 ht.2.2.2.2 with ⟨bb, f', w, N', E', F', k', n', g1, g2, g3⟩ | ⟨N', E', F', k', n', g1, g2, g3⟩
  · cases bb with
    | false =>
      refine absurd w (sw_no (gk_bo h.2.1) 2000 (fun p hp => ?_))
      rcases List.mem_cons.mp hp with rfl | hp
      · exact hc
      · cases hp
    | true =>
      refine ⟨1, N', E', F', k', n', ?_, lw_kx h g2 g3, g3, .inl rfl⟩
      unfold fL_same
      exact bnd g1 (ifn (by decide) rfl)
  · refine ⟨-3, N', E', F', k', n', ?_, lw_kx h g2 g3, g3, .inr rfl⟩
    unfold fL_same
    exact bnd g1 (ifn (by decide) (ifp rfl rfl))
theorem chk_ok (h : Kv q N C ct bo) (hg : Gk q ct bo) {s t S Q : tm} {m f : Nat} (hsk : okt 9 q 10 s) (hsd : dp s ≤ 12) (htk : okt 9 q 10 t) (htd : dp t ≤ 12) (hs : tyR q ct bo s [] S) (hc : conv bo S t) (ht : tyR q ct bo t [] Q) (hQ : red bo Q (.leaf (1 + 10 * m))) : chk ct bo s t f ≠ .inl 2 ∧ chk ct bo s t f ≠ .inr false := by
  have hq : q ≤ 16 := h.2.2.2.1.2.1
  have hbo := gk_bo hg
  have hob := kv_ob h
  have hct := h.2.2.2.2
  have nil : ∀ (i : Nat) (A : tm), ([] : List tm)[i]? = some A → okt 9 q (10 + (([] : List tm).length - 1 - i)) A ∧ dp A ≤ 12 := fun i A h => by cases h
  unfold chk
  rcases h1 : ty ct bo t [] f with e | ⟨R, f1⟩
  · refine ⟨fun e2 => ?_, fun e2 => (by cases e2)⟩
    cases e2
    exact ty_cmp hq hg hct hob t (Γ := []) htk (by simp only [List.length_nil]; omega) nil ht h1
  · obtain ⟨tR, -, -⟩ := ty_snd hq hg hct hob t (Γ := []) htk (by simp only [List.length_nil]; omega) nil h1
    have cR : conv bo R (.leaf (1 + 10 * m)) := conv_t hbo (ty_uniq hg t tR ht) (conv_red hQ)
    simp only
    rcases h2 : lev bo f1 R with e | ⟨l, f2⟩
    · refine ⟨fun e2 => ?_, fun e2 => (by cases e2)⟩
      cases e2
      exact lev_no hbo cR h2
    · simp only
      rcases h3 : ty ct bo s [] f2 with e | ⟨R2, f3⟩
      · refine ⟨fun e2 => ?_, fun e2 => (by cases e2)⟩
        cases e2
        exact ty_cmp hq hg hct hob s (Γ := []) hsk (by simp only [List.length_nil]; omega) nil hs h3
      · obtain ⟨tR2, -, -⟩ := ty_snd hq hg hct hob s (Γ := []) hsk (by simp only [List.length_nil]; omega) nil h3
        have cR2 : conv bo R2 t := conv_t hbo (ty_uniq hg s tR2 hs) hc
        simp only
        rcases h4 : sw bo 2000 f3 [(R2, t)] with _ | _ | ⟨bb, f4⟩
        · exact ⟨fun e => (by cases e), fun e => (by cases e)⟩
        · exact ⟨fun e => (by cases e), fun e => (by cases e)⟩
        · cases bb with
          | false =>
            refine absurd h4 (sw_no hbo 2000 (fun p hp => ?_))
            rcases List.mem_cons.mp hp with rfl | hp
            · exact cR2
            · cases hp
          | true => exact ⟨fun e => (by cases e), fun e => (by cases e)⟩
theorem s_check (hfl : 10000 ≤ fl) (hd : 100 ≤ d) (h : Lw q N C ct bo J k n) {a b f : Nat} {s t : tm} (hs : Tm q N a s) (ht : Tm q N b t) (hf : f ≤ 30) (E : cE) (F : cF) (hc : chk ct bo s t f ≠ .inl 2 ∧ chk ct bo s t f ≠ .inr false) :
    ∃ r N' E' F' k' n', fL_check fl d N C E F k n (jn a) (jn b) (jn f) = some (r, N', E', F', (k', n')) ∧ Lw q N' C ct bo (J + 1) k' n' ∧ Kx N N' k n k' n' ∧ ((chk ct bo s t f = .inr true ∧ r = 1) ∨ (chk ct bo s t f = .inl 3 ∧ r = -3)) := by
  have h1 := k_check hfl hd h.1 E F k n hs.1 ht.1 hf hs.2.1 hs.2.2.1 hs.2.2.2.1 hs.2.2.2.2 ht.2.1 ht.2.2.1 ht.2.2.2.1 ht.2.2.2.2
  rcases hch : chk ct bo s t f with e | bb
  · rw [hch] at h1 hc
    obtain ⟨he, N', E', F', k', n', g1, g2, g3⟩ := h1
    rcases he with rfl | rfl
    · exact absurd rfl hc.1
    · refine ⟨-3, N', E', F', k', n', ?_, lw_kx h g2 g3, g3, .inr ⟨rfl, rfl⟩⟩
      unfold fL_check
      exact bnd g1 (ifn (by decide) (ifn (by decide) (ifp rfl rfl)))
  · rw [hch] at h1 hc
    obtain ⟨N', E', F', k', n', g1, g2, g3⟩ := h1
    cases bb with
    | false => exact absurd rfl hc.2
    | true =>
      refine ⟨1, N', E', F', k', n', ?_, lw_kx h g2 g3, g3, .inl ⟨rfl, rfl⟩⟩
      unfold fL_check
      exact bnd g1 (ifn (by decide) rfl)
end L
theorem hf_mono {bo : Nat → Option tm} (n : Nat) : ∀ {t u : tm} {m : Nat}, hf bo n t = some (u, m) → hf bo (n + 1) t = some (u, m + 1) := by
  induction n with
  | zero =>
    intro t u m h
    simp only [hf] at h ⊢
    rcases hd : rd bo t with _ | t'
    · rw [hd] at h
      cases h
      rfl
    · rw [hd] at h
      cases h
  | succ n ih =>
    intro t u m h
    rw [hf] at h ⊢
    rcases hd : rd bo t with _ | t'
    · rw [hd] at h
      cases h
      rfl
    · rw [hd] at h
      simp only at h ⊢
      split at h
      · rename_i hh
        rw [if_pos hh]
        exact ih h
      · cases h
theorem rd_ext {q : Nat} {bo bo' : Nat → Option tm} (h : ∀ i, i < q → bo' i = bo i) (t : tm) : ∀ {u c : Nat}, okt u q c t → rd bo' t = rd bo t := by
  induction t with
  | leaf m =>
    intro u c hk
    simp only [rd]
    by_cases h5 : m % 10 = 5
    · rw [if_pos h5, if_pos h5]
      simp only [okt] at hk
      exact h _ (by omega)
    · rw [if_neg h5, if_neg h5]
  | branch k l r hl hr =>
    intro u c hk
    simp only [rd]
    rw [hl hk.2.1]
theorem hf_ext {q : Nat} {bo bo' : Nat → Option tm} (h : ∀ i, i < q → bo' i = bo i) (hob : ∀ i b, i < q → bo i = some b → okt 10 q 10 b) (n : Nat) : ∀ {t : tm} {c : Nat}, 10 ≤ c → okt 10 q c t → hf bo' n t = hf bo n t := by
  induction n with
  | zero =>
    intro t c hc hk
    simp only [hf, rd_ext h t hk]
  | succ n ih =>
    intro t c hc hk
    rw [hf, hf, rd_ext h t hk]
    rcases hd : rd bo t with _ | t'
    · rfl
    · simp only
      split
      · exact ih hc (okt_rd hc hob t hk hd)
      · rfl
theorem rd_const {bo : Nat → Option tm} {c : Nat} : rd bo (.leaf (5 + 10 * c)) = bo c := by
  simp only [rd]
  rw [if_pos (by omega), show (5 + 10 * c) / 10 = c by omega]
theorem hf_c0 {bo : Nat → Option tm} {c : Nat} {t : tm} (h : bo c = some t) : hf bo 0 (.leaf (5 + 10 * c)) = none := by
  simp only [hf, rd_const, h]
theorem hf_c1 {bo : Nat → Option tm} {c n : Nat} {t : tm} (h : bo c = some t) (h60 : sz t ≤ 60) (hd : dp t ≤ 12) : hf bo (n + 1) (.leaf (5 + 10 * c)) = hf bo n t := by
  rw [hf, rd_const, h]
  exact if_pos ⟨h60, hd⟩
/-- make is refused when there is no room -/
theorem k_full {q : Nat} {N : cN} {C : cC} {ct : Nat → tm} {bo : Nat → Option tm} (h : Kv q N C ct bo) (hm : nmt N = 120) (p x y : Int32) : fJ_make N C p x y = some (jng, N) := by
  rcases k_may h p x y with ⟨h1, ⟨m, rfl, rfl, hk⟩ | ⟨k, a, b, hk3, rfl, rfl, rfl, -⟩⟩ | h1
  · have hm10 : m % 10 = 0 ∨ m % 10 = 1 ∨ m % 10 = 5 := by
      simp only [okt] at hk
      omega
    have hh := cj_parts (k := m % 10) (by omega)
    rw [decide_eq_false (by omega)] at hh
    unfold fJ_make
    exact bnd h1 (ifp (by decide) (bnd hh (ifp rfl (bnd (c_tfull h.1 hm _ _ _) rfl))))
  · have hh := cj_parts (k := k) (by omega)
    rw [decide_eq_true (by omega)] at hh
    unfold fJ_make
    exact bnd h1 (ifp (by decide) (bnd hh (ifn (by decide) (bnd (c_tfull h.1 hm _ _ _) rfl))))
  · unfold fJ_make
    exact bnd h1 (ifn (by decide) rfl)
