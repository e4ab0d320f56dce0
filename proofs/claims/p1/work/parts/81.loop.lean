/-! ===== the law's loop over one call ===== -/
abbrev z_R : Type := Option (Bool × cN × cE × cF × cT × cU × cV × cO9 × (Nat × Nat))
def z_ok (r : z_R) : Prop := ∃ N' E' F' T' U' V' O9' k' n', r = some (true, N', E', F', T', U', V', O9', (k', n')) ∧ k' ≤ 100 ∧ n' ≤ 20000
theorem z_ifp {c : Prop} {hd : Decidable c} {a b : z_R} (h : c) (hk : z_ok a) : z_ok (@ite _ c hd a b) := by
  rw [if_pos h]
  exact hk
theorem z_ifn {c : Prop} {hd : Decidable c} {a b : z_R} (h : ¬ c) (hk : z_ok b) : z_ok (@ite _ c hd a b) := by
  rw [if_neg h]
  exact hk
theorem z_bnd {α : Type} {x : Option α} {a : α} {f : α → z_R} (h : x = some a) (hk : z_ok (f a)) : z_ok (x.bind f) := by
  rw [h]
  exact hk
theorem z_end {sl : Nat} {xs : Nat → Int32} {fl w : Nat} {N : cN} {C : cC} {E : cE} {F : cF} {P : cP} {T : cT} {G : cG} {U : cU} {H : cH} {B : cB} {V : cV} {O9 : cO9} {k n : Nat} {v : Int32} (h : Int32.ofNat sl - 4 < v) (hk : k ≤ 100) (hn : n ≤ 20000) : z_ok (lp_f_law_23 sl xs fl (w + 1) N C E F P T G U H B V O9 k n v) := by
  rw [lp_f_law_23]
  exact z_ifp h ⟨N, E, F, T, U, V, O9, k, n, rfl, hk, hn⟩
def z_k : Nat := 39
def z_n : Nat := 15568
theorem z_kk : z_k + 1 ≤ 100 ∧ z_n + 6 ≤ 20000 ∧ z_k ≤ 100 ∧ z_n ≤ 20000 := by decide
theorem z_one {xs : Nat → Int32} {fl w : Nat} : z_ok (lp_f_law_23 4 xs fl (w + 1 + 1) N0i C0i E0i F0i P0i T0i G0i U0i H0i B0i V0i O90i z_k z_n 0) := by
  have hE : Int32.ofNat 4 - 4 < (0 : Int32) + 4 := by decide
  rw [lp_f_law_23]
  refine z_ifn (by decide) (z_ifn (by decide) ?_)
  generalize xs (0 : Int32).toNatClampNeg &&& 15 = a
  generalize xs ((0 : Int32) + 1).toNatClampNeg = p
  generalize xs ((0 : Int32) + 2).toNatClampNeg = q
  generalize xs ((0 : Int32) + 3).toNatClampNeg = r
  by_cases h0 : a = 0
  · obtain ⟨v, N', T', hN, hT⟩ := z_make p q r
    exact z_ifp h0 (z_ifn (by decide) (z_ifn (by decide) (z_ifn (by decide) (z_bnd hN (z_ifn (by decide) (z_ifn (by decide) (z_ifn (by decide) (z_bnd hT (z_ifp rfl (z_end hE z_kk.2.2.1 z_kk.2.2.2))))))))))
  refine z_ifn h0 ?_
  by_cases h1 : a = 1
  · exact z_ifp h1 (z_bnd (show fJ_terms N0i = some 0 from rfl) (z_bnd (show fm_terms T0i U0i = some (0, 0) from rfl) (z_ifp rfl (z_end hE z_kk.2.2.1 z_kk.2.2.2))))
  refine z_ifn h1 ?_
  by_cases h2 : a = 2
  · exact z_ifp h2 (z_ifn (by decide) (z_ifn (by decide) (z_bnd (z_termN p q) (z_ifn (by decide) (z_ifn (by decide) (z_bnd (z_termT p q) (z_ifp rfl (z_end hE z_kk.2.2.1 z_kk.2.2.2))))))))
  refine z_ifn h2 ?_
  by_cases h3 : a = 3
  · exact z_ifp h3 (z_ifn (by decide) (z_ifn (by decide) (z_bnd (z_inferL O90i z_k z_n p q) (z_ifn (by decide) (z_ifn (by decide) (z_bnd (z_inferM p q) (z_bnd (show fm_thrown 1 = some 1 from rfl) (z_ifp rfl (z_ifp (by decide) (z_end hE z_kk.1 z_kk.2.1))))))))))
  refine z_ifn h3 ?_
  by_cases h4 : a = 4
  · exact z_ifp h4 (z_ifn (by decide) (z_ifn (by decide) (z_bnd (z_reduceL O90i z_k z_n p q) (z_ifn (by decide) (z_ifn (by decide) (z_bnd (z_reduceM p q) (z_bnd (show fm_thrown 1 = some 1 from rfl) (z_ifp rfl (z_ifp (by decide) (z_end hE z_kk.1 z_kk.2.1))))))))))
  refine z_ifn h4 ?_
  by_cases h5 : a = 5
  · exact z_ifp h5 (z_ifn (by decide) (z_ifn (by decide) (z_ifn (by decide) (z_bnd (z_sameL O90i z_k z_n p q r) (z_ifn (by decide) (z_ifn (by decide) (z_ifn (by decide) (z_bnd (z_sameM p q r) (z_bnd (show fm_thrown 1 = some 1 from rfl) (z_ifp rfl (z_ifp (by decide) (z_end hE z_kk.1 z_kk.2.1))))))))))))
  refine z_ifn h5 ?_
  by_cases h6 : a = 6
  · exact z_ifp h6 (z_ifn (by decide) (z_ifn (by decide) (z_ifn (by decide) (z_bnd (z_checkL O90i z_k z_n p q r) (z_ifn (by decide) (z_ifn (by decide) (z_ifn (by decide) (z_bnd (z_checkM p q r) (z_bnd (show fm_thrown 1 = some 1 from rfl) (z_ifp rfl (z_ifp (by decide) (z_end hE z_kk.1 z_kk.2.1))))))))))))
  refine z_ifn h6 ?_
  by_cases h7 : a = 7
  · exact z_ifp h7 (z_ifn (by decide) (z_ifn (by decide) (z_bnd (z_declareL O90i z_k z_n p q) (z_ifn (by decide) (z_ifn (by decide) (z_bnd (z_declareM p q) (z_bnd (show fm_thrown 1 = some 1 from rfl) (z_ifp rfl (z_ifp (by decide) (z_end hE z_kk.1 z_kk.2.1))))))))))
  refine z_ifn h7 ?_
  by_cases h8 : a = 8
  · exact z_ifp h8 (z_ifn (by decide) (z_ifn (by decide) (z_bnd (z_defineL O90i z_k z_n p q) (z_ifn (by decide) (z_ifn (by decide) (z_bnd (z_defineM fl p q) (z_bnd (show fm_thrown 1 = some 1 from rfl) (z_ifp rfl (z_ifp (by decide) (z_end hE z_kk.1 z_kk.2.1))))))))))
  refine z_ifn h8 ?_
  by_cases h9 : a = 9
  · exact z_ifp h9 (z_bnd (show fJ_constants C0i = some 0 from rfl) (z_bnd (show fm_constants G0i U0i = some (0, 0) from rfl) (z_ifp rfl (z_end hE z_kk.2.2.1 z_kk.2.2.2))))
  refine z_ifn h9 ?_
  by_cases h10 : a = 10
  · exact z_ifp h10 (z_ifn (by decide) (z_bnd (z_bodyC p) (z_ifn (by decide) (z_bnd (z_bodyG p) (z_ifp rfl (z_end hE z_kk.2.2.1 z_kk.2.2.2))))))
  refine z_ifn h10 ?_
  by_cases h11 : a = 11
  · exact z_ifp h11 (z_ifn (by decide) (z_bnd (z_typeC p) (z_ifn (by decide) (z_bnd (z_typeG p) (z_ifp rfl (z_end hE z_kk.2.2.1 z_kk.2.2.2))))))
  refine z_ifn h11 ?_
  by_cases h12 : a = 12
  · exact z_ifp h12 (z_ifn (by decide) (z_bnd (z_markP p) (z_ifn (by decide) (z_bnd (z_markM p) (z_ifp rfl (z_end hE z_kk.2.2.1 z_kk.2.2.2))))))
  refine z_ifn h12 ?_
  by_cases h13 : a = 13
  · exact z_ifp h13 (z_bnd (show fJ_keep P0i = some (-1) from rfl) (z_bnd (show fm_keep fl T0i U0i H0i B0i = some (-1, 0) from rfl) (z_ifp rfl (z_end hE z_kk.2.2.1 z_kk.2.2.2))))
  refine z_ifn h13 ?_
  by_cases h14 : a = 14
  · exact z_ifp h14 (z_bnd (show fJ_reduced E0i = some 0 from rfl) (z_bnd (show fm_reduced U0i V0i = some (0, 0) from rfl) (z_ifp rfl (z_end hE z_kk.2.2.1 z_kk.2.2.2))))
  exact z_ifn h14 (z_end hE z_kk.2.2.1 z_kk.2.2.2)
theorem z_all {L : Nat} (hL : L ≤ 4) {xs : Nat → Int32} {fl : Nat} : z_ok (lp_f_law_23 L xs fl 2 N0i C0i E0i F0i P0i T0i G0i U0i H0i B0i V0i O90i z_k z_n 0) := by
  match L, hL with
  | 0, _ => exact z_end (by decide) z_kk.2.2.1 z_kk.2.2.2
  | 1, _ => exact z_end (by decide) z_kk.2.2.1 z_kk.2.2.2
  | 2, _ => exact z_end (by decide) z_kk.2.2.1 z_kk.2.2.2
  | 3, _ => exact z_end (by decide) z_kk.2.2.1 z_kk.2.2.2
  | 4, _ => exact z_one
  | n + 5, h => omega
