/-! ===== the law's loop ===== -/
abbrev y_R : Type := Option (Bool × cN × cC × cE × cF × cP × cQ × cT × cG × cU × cH × cB × cO × cJ × cV × cY × cZ × cO9 × (Nat × Nat))
def y_ok (r : y_R) : Prop := ∃ N' C' E' F' P' Q' T' G' U' H' B' O' J' V' Y' Z' O9' k' n', r = some (true, N', C', E', F', P', Q', T', G', U', H', B', O', J', V', Y', Z', O9', (k', n')) ∧ k' ≤ 601024 ∧ n' ≤ 7293034
theorem y_ifp {c : Prop} {hd : Decidable c} {a b : y_R} (h : c) (hk : y_ok a) : y_ok (@ite _ c hd a b) := by
  rw [if_pos h]
  exact hk
theorem y_ifn {c : Prop} {hd : Decidable c} {a b : y_R} (h : ¬ c) (hk : y_ok b) : y_ok (@ite _ c hd a b) := by
  rw [if_neg h]
  exact hk
theorem y_bnd {α : Type} {x : Option α} {a : α} {f : α → y_R} (h : x = some a) (hk : y_ok (f a)) : y_ok (x.bind f) := by
  rw [h]
  exact hk
theorem y_cnd {L i : Nat} (hL : L ≤ 2048) (hi : 4 * i ≤ L) : (Int32.ofNat L - (4 : Int32) < jn (4 * i)) ↔ L < 4 * i + 4 := by
  have h4 : (4 : Int32).toInt = 4 := rfl
  have hLi : (Int32.ofNat L).toInt = (L : Int) := j_int (by omega)
  rw [Int32.lt_iff_toInt_lt, Int32.toInt_sub, hLi, j_int (by omega), h4, Int.bmod_eq_of_le (n := (L : Int) - 4) (by omega) (by omega)]
  omega
theorem y_g0 {L i : Nat} (hL : L ≤ 2048) (h : 4 * i + 4 ≤ L) : ¬ (jn (4 * i) < 0 ∨ L ≤ (jn (4 * i)).toNatClampNeg) := by
  rw [jl0, j_lt (by omega) (by omega), j_nat (by omega)]
  omega
theorem y_g {L i j : Nat} (hL : L ≤ 2048) (h : 4 * i + 4 ≤ L) (hj : j ≤ 3) : ¬ (jn (4 * i) + jn j < 0 ∨ L ≤ (jn (4 * i) + jn j).toNatClampNeg) := by
  rw [jl0, j_add, j_lt (by omega) (by omega), j_nat (by omega)]
  omega
theorem y_loop {L : Nat} (hL : L ≤ 2048) {xs : Nat → Int32} {fl d : Nat} (hfl : 10000 ≤ fl) (hd : 100 ≤ d) (g : Nat) : ∀ {i w q : Nat} {N : cN} {C : cC} {E : cE} {F : cF} {P : cP} {Q : cQ} {T : cT} {G : cG} {U : cU} {H : cH} {B : cB} {O : cO} {J : cJ} {V : cV} {Y : cY} {Z : cZ} {O9 : cO9} {k n : Nat} {ct : Nat → tm} {bo : Nat → Option tm}, i + g = L / 4 → Iv q N C P T G H B ct bo → k + 512 ≤ 39 + ncap N + i → n + 5120 ≤ 15568 + 10 * ncap N + 6 * i → y_ok (lp_f_law_23 L xs fl d (w + g + 1) N C E F P Q T G U H B O J V Y Z O9 k n (jn (4 * i))) := by
  induction g with
  | zero =>
    intro i w q N C E F P Q T G U H B O J V Y Z O9 k n ct bo hi h hk2 hn2
    have hcap : ncap N ≤ 65536 := h.1.2.2.2.2.2.2.2.2
    rw [lp_f_law_23]
    refine y_ifp ((y_cnd hL (by omega)).mpr (by omega)) ⟨N, C, E, F, P, Q, T, G, U, H, B, O, J, V, Y, Z, O9, k, n, rfl, by omega, by omega⟩
  | succ g ih =>
    intro i w q N C E F P Q T G U H B O J V Y Z O9 k n ct bo hi h hk2 hn2
    have g0 := y_g0 hL (by omega : 4 * i + 4 ≤ L)
    have g1 : ¬ (jn (4 * i) + (1 : Int32) < 0 ∨ L ≤ (jn (4 * i) + (1 : Int32)).toNatClampNeg) := y_g (j := 1) hL (by omega) (by omega)
    have g2 : ¬ (jn (4 * i) + (2 : Int32) < 0 ∨ L ≤ (jn (4 * i) + (2 : Int32)).toNatClampNeg) := y_g (j := 2) hL (by omega) (by omega)
    have g3 : ¬ (jn (4 * i) + (3 : Int32) < 0 ∨ L ≤ (jn (4 * i) + (3 : Int32)).toNatClampNeg) := y_g (j := 3) hL (by omega) (by omega)
    have hv : jn (4 * i) + (4 : Int32) = jn (4 * (i + 1)) := by
      rw [jl4, j_add, show 4 * i + 4 = 4 * (i + 1) by omega]
    have nxt : ∀ {q : Nat} {N : cN} {C : cC} {E : cE} {F : cF} {P : cP} {Q : cQ} {T : cT} {G : cG} {U : cU} {H : cH} {B : cB} {O : cO} {J : cJ} {V : cV} {Y : cY} {Z : cZ} {O9 : cO9} {k n : Nat} {ct : Nat → tm} {bo : Nat → Option tm}, Iv q N C P T G H B ct bo → k + 512 ≤ 39 + ncap N + (i + 1) → n + 5120 ≤ 15568 + 10 * ncap N + 6 * (i + 1) → y_ok (lp_f_law_23 L xs fl d (w + g + 1) N C E F P Q T G U H B O J V Y Z O9 k n (jn (4 * i) + (4 : Int32))) := by
      intro q N C E F P Q T G U H B O J V Y Z O9 k n ct bo h hk hn
      rw [hv]
      exact ih (by omega) h hk hn
    rw [show w + (g + 1) + 1 = w + g + 1 + 1 by omega, lp_f_law_23]
    refine y_ifn (fun hc => ?_) (y_ifn g0 ?_)
    · have := (y_cnd hL (by omega)).mp hc
      omega
    generalize xs (jn (4 * i)).toNatClampNeg &&& 15 = a
    generalize xs (jn (4 * i) + (1 : Int32)).toNatClampNeg = x
    generalize xs (jn (4 * i) + (2 : Int32)).toNatClampNeg = y
    generalize xs (jn (4 * i) + (3 : Int32)).toNatClampNeg = z
    by_cases c0 : a = 0
    · obtain ⟨v, N', T', e1, e2, iv, hc⟩ := b_make h U x y z
      exact y_ifp c0 (y_ifn g1 (y_ifn g2 (y_ifn g3 (y_bnd e1 (y_ifn g1 (y_ifn g2 (y_ifn g3 (y_bnd e2 (nxt iv (by omega) (by omega))))))))))
    refine y_ifn c0 ?_
    by_cases c1 : a = 1
    · obtain ⟨e1, e2⟩ := b_terms h U
      exact y_ifp c1 (y_bnd e1 (y_bnd e2 (nxt h (by omega) (by omega))))
    refine y_ifn c1 ?_
    by_cases c2 : a = 2
    · obtain ⟨v, e1, e2⟩ := b_term h U x y
      exact y_ifp c2 (y_ifn g1 (y_ifn g2 (y_bnd e1 (y_ifn g1 (y_ifn g2 (y_bnd e2 (nxt h (by omega) (by omega))))))))
    refine y_ifn c2 ?_
    by_cases c3 : a = 3
    · obtain ⟨r, N', E', F', P', O9', k', n', v, H', B', O', J', V', Y', Z', e1, e2, ho, iv, ⟨co1, co2⟩⟩ := s_infer hfl hd h E F k n U O J V Y Z O9 x y
      exact y_ifp c3 (y_ifn g1 (y_ifn g2 (y_bnd e1 (y_ifn g1 (y_ifn g2 (y_bnd e2 (nxt iv (by omega) (by omega))))))))
    refine y_ifn c3 ?_
    by_cases c4 : a = 4
    · obtain ⟨r, N', E', F', P', O9', k', n', v, H', B', O', J', V', e1, e2, ho, iv, ⟨co1, co2⟩⟩ := s_reduce hfl hd h E F k n U O J V O9 x y
      exact y_ifp c4 (y_ifn g1 (y_ifn g2 (y_bnd e1 (y_ifn g1 (y_ifn g2 (y_bnd e2 (nxt iv (by omega) (by omega))))))))
    refine y_ifn c4 ?_
    by_cases c5 : a = 5
    · obtain ⟨r, N', E', F', O9', k', n', v, B', O', J', V', Z', e1, e2, ho, iv, ⟨co1, co2⟩⟩ := s_same hfl hd h E F k n U O J V Z O9 x y z
      exact y_ifp c5 (y_ifn g1 (y_ifn g2 (y_ifn g3 (y_bnd e1 (y_ifn g1 (y_ifn g2 (y_ifn g3 (y_bnd e2 (nxt iv (by omega) (by omega))))))))))
    refine y_ifn c5 ?_
    by_cases c6 : a = 6
    · obtain ⟨r, N', E', F', O9', k', n', v, B', O', J', V', Y', Z', e1, e2, ho, iv, ⟨co1, co2⟩⟩ := s_check hfl hd h E F k n U O J V Y Z O9 x y z
      exact y_ifp c6 (y_ifn g1 (y_ifn g2 (y_ifn g3 (y_bnd e1 (y_ifn g1 (y_ifn g2 (y_ifn g3 (y_bnd e2 (nxt iv (by omega) (by omega))))))))))
    refine y_ifn c6 ?_
    by_cases c7 : a = 7
    · obtain ⟨r, N', C', E', F', O9', k', n', v, G', B', O', J', V', Y', Z', q', ct', bo', e1, e2, ho, iv, ⟨co1, co2⟩⟩ := s_declare hfl hd h E F k n U O J V Y Z O9 x y
      exact y_ifp c7 (y_ifn g1 (y_ifn g2 (y_bnd e1 (y_ifn g1 (y_ifn g2 (y_bnd e2 (nxt iv (by omega) (by omega))))))))
    refine y_ifn c7 ?_
    by_cases c8 : a = 8
    · obtain ⟨r, N', C', E', F', Q', O9', k', n', v, G', B', O', J', V', Y', Z', q', ct', bo', e1, e2, ho, iv, ⟨co1, co2⟩⟩ := s_define hfl hd h E F Q k n U O J V Y Z O9 x y
      exact y_ifp c8 (y_ifn g1 (y_ifn g2 (y_bnd e1 (y_ifn g1 (y_ifn g2 (y_bnd e2 (nxt iv (by omega) (by omega))))))))
    refine y_ifn c8 ?_
    by_cases c9 : a = 9
    · obtain ⟨e1, e2⟩ := b_constants h U
      exact y_ifp c9 (y_bnd e1 (y_bnd e2 (nxt h (by omega) (by omega))))
    refine y_ifn c9 ?_
    by_cases c10 : a = 10
    · obtain ⟨v, e1, e2⟩ := b_hasBody h U x
      exact y_ifp c10 (y_ifn g1 (y_bnd e1 (y_ifn g1 (y_bnd e2 (nxt h (by omega) (by omega))))))
    refine y_ifn c10 ?_
    by_cases c11 : a = 11
    · obtain ⟨v, P', H', B', e1, e2, iv⟩ := b_typeOf hfl hd h U x
      exact y_ifp c11 (y_ifn g1 (y_bnd e1 (y_ifn g1 (y_bnd e2 (nxt iv (by omega) (by omega))))))
    refine y_ifn c11 ?_
    by_cases c12 : a = 12
    · obtain ⟨v, e1, e2⟩ := b_mark h U x
      exact y_ifp c12 (y_ifn g1 (y_bnd e1 (y_ifn g1 (y_bnd e2 (nxt h (by omega) (by omega))))))
    refine y_ifn c12 ?_
    by_cases c13 : a = 13
    · obtain ⟨v, N', P', T', U', J', e1, e2, iv, hc⟩ := b_keep hfl hd h k n U J
      exact y_ifp c13 (y_bnd e1 (y_bnd e2 (y_ifp rfl (nxt iv (by omega) (by omega)))))
    refine y_ifn c13 ?_
    by_cases c14 : a = 14
    · obtain ⟨v, e1⟩ : ∃ v, fJ_reduced E = some v := ⟨_, rfl⟩
      obtain ⟨v2, e2⟩ : ∃ v2, fm_reduced U V = some (v2, jn 0) := ⟨_, rfl⟩
      exact y_ifp c14 (y_bnd e1 (y_bnd e2 (nxt h (by omega) (by omega))))
    refine y_ifn c14 ?_
    exact nxt h (by omega) (by omega)
theorem y_new : Iv 0 N0i C0i P0i T0i G0i H0i B0i (fun _ => .leaf 0) (fun _ => none) :=
  ⟨⟨rfl, rfl, rfl, by decide, by decide, by decide, by decide, by decide, by decide⟩, by decide, ⟨rfl, fun p hp => absurd hp (Nat.not_lt_zero p)⟩, ⟨rfl, by decide, fun c hc => absurd hc (Nat.not_lt_zero c)⟩, rfl, fun c hc => absurd hc (Nat.not_lt_zero c), fun c hc => absurd hc (Nat.not_lt_zero c), .inl ⟨rfl, rfl⟩⟩
theorem y_all {L : Nat} (hL : L ≤ 2048) (xs : Nat → Int32) : y_ok (lp_f_law_23 L xs 10000 100 (0 + L / 4 + 1) N0i C0i E0i F0i P0i Q0i T0i G0i U0i H0i B0i O0i J0i V0i Y0i Z0i O90i 39 15568 (jn (4 * 0))) := y_loop hL (Nat.le_refl _) (Nat.le_refl _) (L / 4) (i := 0) (w := 0) (by omega) y_new (by decide) (by decide)
