def fJ_define (fl : Nat) (d : Nat) (N : cN) (C : cC) (E : cE) (F : cF) (Q : cQ) (k n : Nat) (p1 p2 : Int32) : Option (((Int32) ⊕ Nat) × cN × cC × cE × cF × cQ × (Nat × Nat)) :=
  (fC_isFull C).bind fun z1 =>
  match z1 with
  | (r1) =>
  if (am_bz r1) = 0 then
  ((fJ_begin N E F k n p1 p1 p2).bind fun z3 =>
  match z3 with
  | (.inl (), N_3, E_3, F_3, (k_3, n_3)) =>
  ((fF_typeFound fl d N_3 C E_3 F_3 k_3 n_3 p1).bind fun z4 =>
  match z4 with
  | (.inl r4, N_4, E_4, F_4, (k_4, n_4)) =>
  ((fM_write_Q d N_4 Q r4).bind fun z5 =>
  match z5 with
  | (r5, Q_5) =>
  (fM_hasTooGreat_Q fl Q_5 (1 : Int32)).bind fun z6 =>
  match z6 with
  | (r6) =>
  if (am_bz r6) = 0 then
  ((fJ_lasting fl d N_4 Q_5 k_4 n_4).bind fun z8 =>
  match z8 with
  | (r8, N_8, Q_8, (k_8, n_8)) =>
  (fC_add C r8 p1).bind fun z9 =>
  match z9 with
  | (r9, C_9) =>
  some (.inl r9, N_8, C_9, E_4, F_4, Q_8, (k_8, n_8)))
  else
  some (.inl (-1 : Int32), N_4, C, E_4, F_4, Q_5, (k_4, n_4)))
  | (.inr e4, N_4, E_4, F_4, (k_4, n_4)) =>
  (some (.inr e4, N_4, C, E_4, F_4, Q, (k_4, n_4))))
  | (.inr e3, N_3, E_3, F_3, (k_3, n_3)) =>
  (some (.inr e3, N_3, C, E_3, F_3, Q, (k_3, n_3))))
  else
  (fJ_refuseUnlooked E).bind fun z10 =>
  match z10 with
  | (r10, E_10) =>
  some (.inl r10, N, C, E_10, F, Q, (k, n))
set_option maxHeartbeats 4000000 in
set_option maxRecDepth 100000 in
theorem ok_fJ_define {fl d : Nat} {N : cN} {C : cC} {E : cE} {F : cF} {P : cP} {Q : cQ} {T : cT} {G : cG} {U : cU} {H : cH} {B : cB} {O : cO} {J : cJ} {V : cV} {Y : cY} {Z : cZ} {O9 : cO9} {k n : Nat} {p1 p2 : Int32} {rv : (Int32) ⊕ Nat} {N' : cN} {C' : cC} {E' : cE} {F' : cF} {Q' : cQ} {k' n' : Nat} (h : fJ_define fl d N C E F Q k n p1 p2 = some (rv, N', C', E', F', Q', (k', n'))) (D : Nat) (hD : d + 6 ≤ D) : am_Call D 64 [.ref 0, .int p1, .int p2] (W9 N C E F P Q T G U H B O J V Y Z O9) k n (am_oI rv, W9 N' C' E' F' P Q' T G U H B O J V Y Z O9, k', n') := by
  unfold fJ_define at h
  obtain ⟨D, rfl⟩ : ∃ D', D = D' + 1 := ⟨D - 1, by omega⟩
  have hD : d + 5 ≤ D := by omega
  refine am_call_run (by decide) (by decide) rfl (Nat.le_of_ble_eq_true rfl) (by decide) (L := [(0, .ref 0), (1, .int p1), (2, .int p2)]) rfl ?_
  refine am_ev_st 2 (f' := (4, [(0, .ref 0), (1, .int p1), (2, .int p2)], [.ref 7], (W9 N C E F P Q T G U H B O J V Y Z O9), k, n)) (g := True ∧ True ∧ True) (by with_unfolding_all rfl) ⟨trivial, trivial, trivial⟩ ?_
  replace h := Option.bind_eq_some_iff.mp h
  obtain ⟨r1, hc1, h⟩ := h
  try dsimp only at h
  refine am_ev_call (.invokevirtual 107) 2 0 649 [.ref 7] [] rfl rfl rfl rfl (ok_fC_isFull hc1 D (by omega)) rfl ?_
  refine am_ev_st 1 (f' := am_br ((am_bz r1) = 0) 15 7 [(0, .ref 0), (1, .int p1), (2, .int p2)] [] (W9 N C E F P Q T G U H B O J V Y Z O9) k n) (g := True ∧ True) (by with_unfolding_all rfl) ⟨trivial, trivial⟩ ?_
  by_cases c2 : (am_bz r1) = 0
  · rw [if_pos c2] at h
    refine am_ev_pos c2 ?_
    refine am_ev_st 4 (f' := (19, [(0, .ref 0), (1, .int p1), (2, .int p2)], [.int p2, .int p1, .int p1, .ref 0], (W9 N C E F P Q T G U H B O J V Y Z O9), k, n)) (g := True ∧ True ∧ True ∧ True ∧ True) (by with_unfolding_all rfl) ⟨trivial, trivial, trivial, trivial, trivial⟩ ?_
    replace h := Option.bind_eq_some_iff.mp h
    obtain ⟨⟨⟨⟩ | e3, N_3, E_3, F_3, ⟨k_3, n_3⟩⟩, hc3, h⟩ := h
    · dsimp only at h
      refine am_ev_call (.invokevirtual 86) 73 6 465 [.ref 0, .int p1, .int p1, .int p2] [] rfl rfl rfl rfl (ok_fJ_begin hc3 D (by omega)) rfl ?_
      refine am_ev_st 7 (f' := (35, [(0, .ref 0), (1, .int p1), (2, .int p2)], [.int p1, .ref 13, .ref 1, .ref 17], (W9 N_3 C E_3 F_3 P Q T G U H B O J V Y Z O9), k_3, n_3)) (g := True ∧ True ∧ True ∧ True ∧ True ∧ True ∧ True ∧ True) (by with_unfolding_all rfl) ⟨trivial, trivial, trivial, trivial, trivial, trivial, trivial, trivial⟩ ?_
      replace h := Option.bind_eq_some_iff.mp h
      obtain ⟨⟨r4 | e4, N_4, E_4, F_4, ⟨k_4, n_4⟩⟩, hc4, h⟩ := h
      · dsimp only at h
        refine am_ev_call (.invokevirtual 90) 9 2 497 [.ref 13, .int p1] [.ref 1, .ref 17] rfl rfl rfl rfl (ok_fF_typeFound hc4 D (by omega)) rfl ?_
        replace h := Option.bind_eq_some_iff.mp h
        obtain ⟨⟨r5, Q_5⟩, hc5, h⟩ := h
        try dsimp only at h
        refine am_ev_call (.invokevirtual 93) 21 4 301 [.ref 17, .ref 1, .int r4] [] rfl rfl rfl rfl (ok_fM_write_Q hc5 D (by omega)) rfl ?_
        refine am_ev_st 4 (f' := (47, [(0, .ref 0), (1, .int p1), (2, .int p2)], [.int (1 : Int32), .ref 17], (W9 N_4 C E_4 F_4 P Q_5 T G U H B O J V Y Z O9), k_4, n_4)) (g := True ∧ True ∧ True ∧ True ∧ True) (by with_unfolding_all rfl) ⟨trivial, trivial, trivial, trivial, trivial⟩ ?_
        replace h := Option.bind_eq_some_iff.mp h
        obtain ⟨r6, hc6, h⟩ := h
        try dsimp only at h
        refine am_ev_call (.invokevirtual 118) 20 2 329 [.ref 17, .int (1 : Int32)] [] rfl rfl rfl rfl (ok_fM_hasTooGreat_Q hc6 D (by omega)) rfl ?_
        refine am_ev_st 1 (f' := am_br ((am_bz r6) = 0) 55 50 [(0, .ref 0), (1, .int p1), (2, .int p2)] [] (W9 N_4 C E_4 F_4 P Q_5 T G U H B O J V Y Z O9) k_4 n_4) (g := True ∧ True) (by with_unfolding_all rfl) ⟨trivial, trivial⟩ ?_
        by_cases c7 : (am_bz r6) = 0
        · rw [if_pos c7] at h
          refine am_ev_pos c7 ?_
          refine am_ev_st 5 (f' := (64, [(0, .ref 0), (1, .int p1), (2, .int p2)], [.ref 17, .ref 0, .ref 7], (W9 N_4 C E_4 F_4 P Q_5 T G U H B O J V Y Z O9), k_4, n_4)) (g := True ∧ True ∧ True ∧ True ∧ True ∧ True) (by with_unfolding_all rfl) ⟨trivial, trivial, trivial, trivial, trivial, trivial⟩ ?_
          replace h := Option.bind_eq_some_iff.mp h
          obtain ⟨⟨r8, N_8, Q_8, ⟨k_8, n_8⟩⟩, hc8, h⟩ := h
          try dsimp only at h
          refine am_ev_call (.invokevirtual 121) 75 2 668 [.ref 0, .ref 17] [.ref 7] rfl rfl rfl rfl (ok_fJ_lasting hc8 D (by omega)) rfl ?_
          refine am_ev_st 1 (f' := (68, [(0, .ref 0), (1, .int p1), (2, .int p2)], [.int p1, .int r8, .ref 7], (W9 N_8 C E_4 F_4 P Q_8 T G U H B O J V Y Z O9), k_8, n_8)) (g := True ∧ True) (by with_unfolding_all rfl) ⟨trivial, trivial⟩ ?_
          replace h := Option.bind_eq_some_iff.mp h
          obtain ⟨⟨r9, C_9⟩, hc9, h⟩ := h
          try dsimp only at h
          refine am_ev_call (.invokevirtual 114) 6 4 657 [.ref 7, .int r8, .int p1] [] rfl rfl rfl rfl (ok_fC_add hc9 D (by omega)) rfl ?_
          cases h
          exact am_ev_ret 0 0 0 rfl .int rfl rfl rfl
        · rw [if_neg c7] at h
          refine am_ev_neg c7 ?_
          refine am_ev_st 1 (f' := (54, [(0, .ref 0), (1, .int p1), (2, .int p2)], [.int (-1 : Int32)], (W9 N_4 C E_4 F_4 P Q_5 T G U H B O J V Y Z O9), k_4, n_4)) (g := True ∧ True) (by with_unfolding_all rfl) ⟨trivial, trivial⟩ ?_
          cases h
          exact am_ev_ret 0 0 0 rfl .int rfl rfl rfl
      · dsimp only at h
        cases h
        exact am_ev_callx (.invokevirtual 90) 9 2 497 [.ref 13, .int p1] [.ref 1, .ref 17] rfl rfl rfl rfl (ok_fF_typeFound hc4 D (by omega)) rfl rfl rfl
    · dsimp only at h
      cases h
      exact am_ev_callx (.invokevirtual 86) 73 6 465 [.ref 0, .int p1, .int p1, .int p2] [] rfl rfl rfl rfl (ok_fJ_begin hc3 D (by omega)) rfl rfl rfl
  · rw [if_neg c2] at h
    refine am_ev_neg c2 ?_
    refine am_ev_st 1 (f' := (11, [(0, .ref 0), (1, .int p1), (2, .int p2)], [.ref 0], (W9 N C E F P Q T G U H B O J V Y Z O9), k, n)) (g := True ∧ True) (by with_unfolding_all rfl) ⟨trivial, trivial⟩ ?_
    replace h := Option.bind_eq_some_iff.mp h
    obtain ⟨⟨r10, E_10⟩, hc10, h⟩ := h
    try dsimp only at h
    refine am_ev_call (.invokevirtual 111) 74 0 653 [.ref 0] [] rfl rfl rfl rfl (ok_fJ_refuseUnlooked hc10 D (by omega)) rfl ?_
    cases h
    exact am_ev_ret 0 0 0 rfl .int rfl rfl rfl
def fL_define (fl : Nat) (d : Nat) (N : cN) (C : cC) (E : cE) (F : cF) (Q : cQ) (O9 : cO9) (k n : Nat) (p2 p3 : Int32) : Option (Int32 × cN × cC × cE × cF × cQ × cO9 × (Nat × Nat)) :=
  (fJ_define fl d N C E F Q k n p2 p3).bind fun z1 =>
  match z1 with
  | (.inl r1, N_1, C_1, E_1, F_1, Q_1, (k_1, n_1)) =>
  (if ((0 : Int32) < 0 ∨ 1 ≤ ((0 : Int32)).toNatClampNeg) then none else
  some ((0 : Int32), N_1, C_1, E_1, F_1, Q_1, ((vp_updL O9 ((0 : Int32)).toNatClampNeg r1.toInt64)), (k_1, n_1)))
  | (.inr e1, N_1, C_1, E_1, F_1, Q_1, (k_1, n_1)) =>
  (if e1 = 0 then
  (some ((1 : Int32), N_1, C_1, E_1, F_1, Q_1, O9, (k_1, n_1)))
  else
  if e1 = 1 then
  (some ((2 : Int32), N_1, C_1, E_1, F_1, Q_1, O9, (k_1, n_1)))
  else
  if e1 = 2 then
  (some ((3 : Int32), N_1, C_1, E_1, F_1, Q_1, O9, (k_1, n_1)))
  else
  none)
set_option maxHeartbeats 4000000 in
set_option maxRecDepth 100000 in
theorem ok_fL_define {fl d : Nat} {N : cN} {C : cC} {E : cE} {F : cF} {P : cP} {Q : cQ} {T : cT} {G : cG} {U : cU} {H : cH} {B : cB} {O : cO} {J : cJ} {V : cV} {Y : cY} {Z : cZ} {O9 : cO9} {k n : Nat} {p2 p3 : Int32} {rv : Int32} {N' : cN} {C' : cC} {E' : cE} {F' : cF} {Q' : cQ} {O9' : cO9} {k' n' : Nat} (h : fL_define fl d N C E F Q O9 k n p2 p3 = some (rv, N', C', E', F', Q', O9', (k', n'))) (D : Nat) (hD : d + 7 ≤ D) : am_Call D 130 [.ref 0, .int p2, .int p3, .ref 38] (W9 N C E F P Q T G U H B O J V Y Z O9) k n (.inl (some (.int rv)), W9 N' C' E' F' P Q' T G U H B O J V Y Z O9', k', n') := by
  unfold fL_define at h
  obtain ⟨D, rfl⟩ : ∃ D', D = D' + 1 := ⟨D - 1, by omega⟩
  have hD : d + 6 ≤ D := by omega
  refine am_call_run (by decide) (by decide) rfl (Nat.le_of_ble_eq_true rfl) (by decide) (L := [(0, .ref 0), (1, .int p2), (2, .int p3), (3, .ref 38)]) rfl ?_
  refine am_ev_st 5 (f' := (5, [(0, .ref 0), (1, .int p2), (2, .int p3), (3, .ref 38)], [.int p3, .int p2, .ref 0, .int (0 : Int32), .ref 38], (W9 N C E F P Q T G U H B O J V Y Z O9), k, n)) (g := True ∧ True ∧ True ∧ True ∧ True ∧ True) (by with_unfolding_all rfl) ⟨trivial, trivial, trivial, trivial, trivial, trivial⟩ ?_
  replace h := Option.bind_eq_some_iff.mp h
  obtain ⟨⟨r1 | e1, N_1, C_1, E_1, F_1, Q_1, ⟨k_1, n_1⟩⟩, hc1, h⟩ := h
  · dsimp only at h
    refine am_ev_call (.invokevirtual 32) 64 4 664 [.ref 0, .int p2, .int p3] [.int (0 : Int32), .ref 38] rfl rfl rfl rfl (ok_fJ_define hc1 D (by omega)) rfl ?_
    by_cases g2 : ((0 : Int32) < 0 ∨ 1 ≤ ((0 : Int32)).toNatClampNeg)
    · rw [if_pos g2] at h; cases h
    rw [if_neg g2] at h
    refine am_ev_st 4 (f' := (26, [(0, .ref 0), (1, .int p2), (2, .int p3), (3, .ref 38)], [.int (0 : Int32)], (W9 N_1 C_1 E_1 F_1 P Q_1 T G U H B O J V Y Z ((vp_updL O9 ((0 : Int32)).toNatClampNeg r1.toInt64))), k_1, n_1)) (g := True ∧ vp_in ((0 : Int32)) 1 ∧ True ∧ True ∧ True) (by with_unfolding_all rfl) ⟨trivial, g2, trivial, trivial, trivial⟩ ?_
    cases h
    exact am_ev_ret 0 0 0 rfl .int rfl rfl rfl
  · dsimp only at h
    by_cases c3 : e1 = 0
    · rw [if_pos c3] at h
      subst c3
      refine am_ev_catch (.invokevirtual 32) 64 4 664 [.ref 0, .int p2, .int p3] [.int (0 : Int32), .ref 38] rfl rfl rfl rfl (ok_fJ_define hc1 D (by omega)) rfl 13 rfl rfl ?_
      refine am_ev_st 2 (f' := (16, [(4, .retAddr 1), (0, .ref 0), (1, .int p2), (2, .int p3), (3, .ref 38)], [.int (1 : Int32)], (W9 N_1 C_1 E_1 F_1 P Q_1 T G U H B O J V Y Z O9), k_1, n_1)) (g := True ∧ True ∧ True) (by with_unfolding_all rfl) ⟨trivial, trivial, trivial⟩ ?_
      cases h
      exact am_ev_ret 0 0 0 rfl .int rfl rfl rfl
    rw [if_neg c3] at h
    by_cases c4 : e1 = 1
    · rw [if_pos c4] at h
      subst c4
      refine am_ev_catch (.invokevirtual 32) 64 4 664 [.ref 0, .int p2, .int p3] [.int (0 : Int32), .ref 38] rfl rfl rfl rfl (ok_fJ_define hc1 D (by omega)) rfl 17 rfl rfl ?_
      refine am_ev_st 2 (f' := (20, [(4, .retAddr 1), (0, .ref 0), (1, .int p2), (2, .int p3), (3, .ref 38)], [.int (2 : Int32)], (W9 N_1 C_1 E_1 F_1 P Q_1 T G U H B O J V Y Z O9), k_1, n_1)) (g := True ∧ True ∧ True) (by with_unfolding_all rfl) ⟨trivial, trivial, trivial⟩ ?_
      cases h
      exact am_ev_ret 0 0 0 rfl .int rfl rfl rfl
    rw [if_neg c4] at h
    by_cases c5 : e1 = 2
    · rw [if_pos c5] at h
      subst c5
      refine am_ev_catch (.invokevirtual 32) 64 4 664 [.ref 0, .int p2, .int p3] [.int (0 : Int32), .ref 38] rfl rfl rfl rfl (ok_fJ_define hc1 D (by omega)) rfl 21 rfl rfl ?_
      refine am_ev_st 2 (f' := (24, [(4, .retAddr 1), (0, .ref 0), (1, .int p2), (2, .int p3), (3, .ref 38)], [.int (3 : Int32)], (W9 N_1 C_1 E_1 F_1 P Q_1 T G U H B O J V Y Z O9), k_1, n_1)) (g := True ∧ True ∧ True) (by with_unfolding_all rfl) ⟨trivial, trivial, trivial⟩ ?_
      cases h
      exact am_ev_ret 0 0 0 rfl .int rfl rfl rfl
    rw [if_neg c5] at h
    cases h
def fN_mayJoin (N : cN) (p1 p2 : Int32) : Option (Bool) :=
  (fN_sizeOf N p1).bind fun z1 =>
  match z1 with
  | (r1) =>
  (fN_sizeOf N p2).bind fun z2 =>
  match z2 with
  | (r2) =>
  if (60 : Int32) < (((1 : Int32) + r1) + r2) then
  (some false)
  else
  (fN_depthOf N p1).bind fun z4 =>
  match z4 with
  | (r4) =>
  (fN_depthOf N p2).bind fun z5 =>
  match z5 with
  | (r5) =>
  if (12 : Int32) < ((1 : Int32) + (if r4 < r5 then r5 else r4)) then
  (some false)
  else
  some true
set_option maxHeartbeats 4000000 in
set_option maxRecDepth 100000 in
theorem ok_fN_mayJoin  {N : cN} {C : cC} {E : cE} {F : cF} {P : cP} {Q : cQ} {T : cT} {G : cG} {U : cU} {H : cH} {B : cB} {O : cO} {J : cJ} {V : cV} {Y : cY} {Z : cZ} {O9 : cO9} {k n : Nat} {p1 p2 : Int32} {rv : Bool} (h : fN_mayJoin N p1 p2 = some rv) (D : Nat) (hD : 2 ≤ D) : am_Call D 33 [.ref 1, .int p1, .int p2] (W9 N C E F P Q T G U H B O J V Y Z O9) k n (.inl (some (.int (am_bz rv))), W9 N C E F P Q T G U H B O J V Y Z O9, k, n) := by
  unfold fN_mayJoin at h
  obtain ⟨D, rfl⟩ : ∃ D', D = D' + 1 := ⟨D - 1, by omega⟩
  have hD : 1 ≤ D := by omega
  refine am_call_run (by decide) (by decide) rfl (Nat.le_of_ble_eq_true rfl) (by decide) (L := [(0, .ref 1), (1, .int p1), (2, .int p2)]) rfl ?_
  refine am_ev_st 3 (f' := (3, [(0, .ref 1), (1, .int p1), (2, .int p2)], [.int p1, .ref 1, .int (1 : Int32)], (W9 N C E F P Q T G U H B O J V Y Z O9), k, n)) (g := True ∧ True ∧ True ∧ True) (by with_unfolding_all rfl) ⟨trivial, trivial, trivial, trivial⟩ ?_
  replace h := Option.bind_eq_some_iff.mp h
  obtain ⟨r1, hc1, h⟩ := h
  try dsimp only at h
  refine am_ev_call (.invokevirtual 37) 31 2 231 [.ref 1, .int p1] [.int (1 : Int32)] rfl rfl rfl rfl (ok_fN_sizeOf hc1 D (by omega)) rfl ?_
  refine am_ev_st 3 (f' := (9, [(0, .ref 1), (1, .int p1), (2, .int p2)], [.int p2, .ref 1, .int ((1 : Int32) + r1)], (W9 N C E F P Q T G U H B O J V Y Z O9), k, n)) (g := True ∧ True ∧ True ∧ True) (by with_unfolding_all rfl) ⟨trivial, trivial, trivial, trivial⟩ ?_
  replace h := Option.bind_eq_some_iff.mp h
  obtain ⟨r2, hc2, h⟩ := h
  try dsimp only at h
  refine am_ev_call (.invokevirtual 37) 31 2 231 [.ref 1, .int p2] [.int ((1 : Int32) + r1)] rfl rfl rfl rfl (ok_fN_sizeOf hc2 D (by omega)) rfl ?_
  refine am_ev_st 3 (f' := am_br ((60 : Int32) < (((1 : Int32) + r1) + r2)) 42 15 [(0, .ref 1), (1, .int p1), (2, .int p2)] [] (W9 N C E F P Q T G U H B O J V Y Z O9) k n) (g := True ∧ True ∧ True ∧ True) (by with_unfolding_all rfl) ⟨trivial, trivial, trivial, trivial⟩ ?_
  by_cases c3 : (60 : Int32) < (((1 : Int32) + r1) + r2)
  · rw [if_pos c3] at h
    refine am_ev_pos c3 ?_
    refine am_ev_st 1 (f' := (43, [(0, .ref 1), (1, .int p1), (2, .int p2)], [.int (0 : Int32)], (W9 N C E F P Q T G U H B O J V Y Z O9), k, n)) (g := True ∧ True) (by with_unfolding_all rfl) ⟨trivial, trivial⟩ ?_
    cases h
    exact am_ev_ret 0 0 0 rfl .boolean rfl am_n0 rfl
  · rw [if_neg c3] at h
    refine am_ev_neg c3 ?_
    refine am_ev_st 3 (f' := (21, [(0, .ref 1), (1, .int p1), (2, .int p2)], [.int p1, .ref 1, .int (1 : Int32)], (W9 N C E F P Q T G U H B O J V Y Z O9), k, n)) (g := True ∧ True ∧ True ∧ True) (by with_unfolding_all rfl) ⟨trivial, trivial, trivial, trivial⟩ ?_
    replace h := Option.bind_eq_some_iff.mp h
    obtain ⟨r4, hc4, h⟩ := h
    try dsimp only at h
    refine am_ev_call (.invokevirtual 41) 32 2 235 [.ref 1, .int p1] [.int (1 : Int32)] rfl rfl rfl rfl (ok_fN_depthOf hc4 D (by omega)) rfl ?_
    refine am_ev_st 2 (f' := (26, [(0, .ref 1), (1, .int p1), (2, .int p2)], [.int p2, .ref 1, .int r4, .int (1 : Int32)], (W9 N C E F P Q T G U H B O J V Y Z O9), k, n)) (g := True ∧ True ∧ True) (by with_unfolding_all rfl) ⟨trivial, trivial, trivial⟩ ?_
    replace h := Option.bind_eq_some_iff.mp h
    obtain ⟨r5, hc5, h⟩ := h
    try dsimp only at h
    refine am_ev_call (.invokevirtual 41) 32 2 235 [.ref 1, .int p2] [.int r4, .int (1 : Int32)] rfl rfl rfl rfl (ok_fN_depthOf hc5 D (by omega)) rfl ?_
    refine am_ev_st 4 (f' := am_br ((12 : Int32) < ((1 : Int32) + (if r4 < r5 then r5 else r4))) 42 35 [(0, .ref 1), (1, .int p1), (2, .int p2)] [] (W9 N C E F P Q T G U H B O J V Y Z O9) k n) (g := True ∧ True ∧ True ∧ True ∧ True) (by with_unfolding_all rfl) ⟨trivial, trivial, trivial, trivial, trivial⟩ ?_
    by_cases c6 : (12 : Int32) < ((1 : Int32) + (if r4 < r5 then r5 else r4))
    · rw [if_pos c6] at h
      refine am_ev_pos c6 ?_
      refine am_ev_st 1 (f' := (43, [(0, .ref 1), (1, .int p1), (2, .int p2)], [.int (0 : Int32)], (W9 N C E F P Q T G U H B O J V Y Z O9), k, n)) (g := True ∧ True) (by with_unfolding_all rfl) ⟨trivial, trivial⟩ ?_
      cases h
      exact am_ev_ret 0 0 0 rfl .boolean rfl am_n0 rfl
    · rw [if_neg c6] at h
      refine am_ev_neg c6 ?_
      refine am_ev_st 2 (f' := (43, [(0, .ref 1), (1, .int p1), (2, .int p2)], [.int (1 : Int32)], (W9 N C E F P Q T G U H B O J V Y Z O9), k, n)) (g := True ∧ True ∧ True) (by with_unfolding_all rfl) ⟨trivial, trivial, trivial⟩ ?_
      cases h
      exact am_ev_ret 0 0 0 rfl .boolean rfl am_n1 rfl
def fJ_mayBeMade (N : cN) (C : cC) (p1 p2 p3 : Int32) : Option (Bool) :=
  if p1 = 0 then
  (if p2 < 0 then
  (some false)
  else
  if (9 : Int32) < p2 then
  (some false)
  else
  some true)
  else
  if p1 ≠ (1 : Int32) then
  (if p1 ≠ (5 : Int32) then
  ((fJ_hasParts p1).bind fun z6 =>
  match z6 with
  | (r6) =>
  if (am_bz r6) = 0 then
  (some false)
  else
  (fN_isTerm N p2).bind fun z8 =>
  match z8 with
  | (r8) =>
  if (am_bz r8) = 0 then
  (some false)
  else
  (fN_isTerm N p3).bind fun z10 =>
  match z10 with
  | (r10) =>
  if (am_bz r10) = 0 then
  (some false)
  else
  (fN_mayJoin N p2 p3).bind fun z12 =>
  match z12 with
  | (r12) =>
  if (am_bz r12) = 0 then
  (some false)
  else
  some true)
  else
  (fC_isThere C p2).bind fun z14 =>
  match z14 with
  | (r14) =>
  some r14)
  else
  if p2 < 0 then
  (some false)
  else
  if (9 : Int32) < p2 then
  (some false)
  else
  some true
set_option maxHeartbeats 4000000 in
set_option maxRecDepth 100000 in
theorem ok_fJ_mayBeMade  {N : cN} {C : cC} {E : cE} {F : cF} {P : cP} {Q : cQ} {T : cT} {G : cG} {U : cU} {H : cH} {B : cB} {O : cO} {J : cJ} {V : cV} {Y : cY} {Z : cZ} {O9 : cO9} {k n : Nat} {p1 p2 p3 : Int32} {rv : Bool} (h : fJ_mayBeMade N C p1 p2 p3 = some rv) (D : Nat) (hD : 3 ≤ D) : am_Call D 72 [.ref 0, .int p1, .int p2, .int p3] (W9 N C E F P Q T G U H B O J V Y Z O9) k n (.inl (some (.int (am_bz rv))), W9 N C E F P Q T G U H B O J V Y Z O9, k, n) := by
  unfold fJ_mayBeMade at h
  obtain ⟨D, rfl⟩ : ∃ D', D = D' + 1 := ⟨D - 1, by omega⟩
  have hD : 2 ≤ D := by omega
  refine am_call_run (by decide) (by decide) rfl (Nat.le_of_ble_eq_true rfl) (by decide) (L := [(0, .ref 0), (1, .int p1), (2, .int p2), (3, .int p3)]) rfl ?_
  refine am_ev_st 2 (f' := am_br (p1 = 0) 9 1 [(0, .ref 0), (1, .int p1), (2, .int p2), (3, .int p3)] [] (W9 N C E F P Q T G U H B O J V Y Z O9) k n) (g := True ∧ True ∧ True) (by with_unfolding_all rfl) ⟨trivial, trivial, trivial⟩ ?_
  by_cases c1 : p1 = 0
  · rw [if_pos c1] at h
    refine am_ev_pos c1 ?_
    refine am_ev_st 2 (f' := am_br (p2 < 0) 23 10 [(0, .ref 0), (1, .int p1), (2, .int p2), (3, .int p3)] [] (W9 N C E F P Q T G U H B O J V Y Z O9) k n) (g := True ∧ True ∧ True) (by with_unfolding_all rfl) ⟨trivial, trivial, trivial⟩ ?_
    by_cases c2 : p2 < 0
    · rw [if_pos c2] at h
      refine am_ev_pos c2 ?_
      refine am_ev_st 1 (f' := (24, [(0, .ref 0), (1, .int p1), (2, .int p2), (3, .int p3)], [.int (0 : Int32)], (W9 N C E F P Q T G U H B O J V Y Z O9), k, n)) (g := True ∧ True) (by with_unfolding_all rfl) ⟨trivial, trivial⟩ ?_
      cases h
      exact am_ev_ret 0 0 0 rfl .boolean rfl am_n0 rfl
    · rw [if_neg c2] at h
      refine am_ev_neg c2 ?_
      refine am_ev_st 3 (f' := am_br ((9 : Int32) < p2) 23 16 [(0, .ref 0), (1, .int p1), (2, .int p2), (3, .int p3)] [] (W9 N C E F P Q T G U H B O J V Y Z O9) k n) (g := True ∧ True ∧ True ∧ True) (by with_unfolding_all rfl) ⟨trivial, trivial, trivial, trivial⟩ ?_
      by_cases c3 : (9 : Int32) < p2
      · rw [if_pos c3] at h
        refine am_ev_pos c3 ?_
        refine am_ev_st 1 (f' := (24, [(0, .ref 0), (1, .int p1), (2, .int p2), (3, .int p3)], [.int (0 : Int32)], (W9 N C E F P Q T G U H B O J V Y Z O9), k, n)) (g := True ∧ True) (by with_unfolding_all rfl) ⟨trivial, trivial⟩ ?_
        cases h
        exact am_ev_ret 0 0 0 rfl .boolean rfl am_n0 rfl
      · rw [if_neg c3] at h
        refine am_ev_neg c3 ?_
        refine am_ev_st 2 (f' := (24, [(0, .ref 0), (1, .int p1), (2, .int p2), (3, .int p3)], [.int (1 : Int32)], (W9 N C E F P Q T G U H B O J V Y Z O9), k, n)) (g := True ∧ True ∧ True) (by with_unfolding_all rfl) ⟨trivial, trivial, trivial⟩ ?_
        cases h
        exact am_ev_ret 0 0 0 rfl .boolean rfl am_n1 rfl
  · rw [if_neg c1] at h
    refine am_ev_neg c1 ?_
    refine am_ev_st 3 (f' := am_br (p1 ≠ (1 : Int32)) 25 6 [(0, .ref 0), (1, .int p1), (2, .int p2), (3, .int p3)] [] (W9 N C E F P Q T G U H B O J V Y Z O9) k n) (g := True ∧ True ∧ True ∧ True) (by with_unfolding_all rfl) ⟨trivial, trivial, trivial, trivial⟩ ?_
    by_cases c4 : p1 ≠ (1 : Int32)
    · rw [if_pos c4] at h
      refine am_ev_pos c4 ?_
      refine am_ev_st 3 (f' := am_br (p1 ≠ (5 : Int32)) 39 27 [(0, .ref 0), (1, .int p1), (2, .int p2), (3, .int p3)] [] (W9 N C E F P Q T G U H B O J V Y Z O9) k n) (g := True ∧ True ∧ True ∧ True) (by with_unfolding_all rfl) ⟨trivial, trivial, trivial, trivial⟩ ?_
      by_cases c5 : p1 ≠ (5 : Int32)
      · rw [if_pos c5] at h
        refine am_ev_pos c5 ?_
        refine am_ev_st 1 (f' := (40, [(0, .ref 0), (1, .int p1), (2, .int p2), (3, .int p3)], [.int p1], (W9 N C E F P Q T G U H B O J V Y Z O9), k, n)) (g := True ∧ True) (by with_unfolding_all rfl) ⟨trivial, trivial⟩ ?_
        replace h := Option.bind_eq_some_iff.mp h
        obtain ⟨r6, hc6, h⟩ := h
        try dsimp only at h
        refine am_ev_call (.invokestatic 55) 71 2 220 [.int p1] [] rfl rfl rfl rfl (ok_fJ_hasParts hc6 D (by omega)) rfl ?_
        refine am_ev_st 1 (f' := am_br ((am_bz r6) = 0) 84 43 [(0, .ref 0), (1, .int p1), (2, .int p2), (3, .int p3)] [] (W9 N C E F P Q T G U H B O J V Y Z O9) k n) (g := True ∧ True) (by with_unfolding_all rfl) ⟨trivial, trivial⟩ ?_
        by_cases c7 : (am_bz r6) = 0
        · rw [if_pos c7] at h
          refine am_ev_pos c7 ?_
          refine am_ev_st 1 (f' := (85, [(0, .ref 0), (1, .int p1), (2, .int p2), (3, .int p3)], [.int (0 : Int32)], (W9 N C E F P Q T G U H B O J V Y Z O9), k, n)) (g := True ∧ True) (by with_unfolding_all rfl) ⟨trivial, trivial⟩ ?_
          cases h
          exact am_ev_ret 0 0 0 rfl .boolean rfl am_n0 rfl
        · rw [if_neg c7] at h
          refine am_ev_neg c7 ?_
          refine am_ev_st 3 (f' := (51, [(0, .ref 0), (1, .int p1), (2, .int p2), (3, .int p3)], [.int p2, .ref 1], (W9 N C E F P Q T G U H B O J V Y Z O9), k, n)) (g := True ∧ True ∧ True ∧ True) (by with_unfolding_all rfl) ⟨trivial, trivial, trivial, trivial⟩ ?_
          replace h := Option.bind_eq_some_iff.mp h
          obtain ⟨r8, hc8, h⟩ := h
          try dsimp only at h
          refine am_ev_call (.invokevirtual 67) 27 2 223 [.ref 1, .int p2] [] rfl rfl rfl rfl (ok_fN_isTerm hc8 D (by omega)) rfl ?_
          refine am_ev_st 1 (f' := am_br ((am_bz r8) = 0) 84 54 [(0, .ref 0), (1, .int p1), (2, .int p2), (3, .int p3)] [] (W9 N C E F P Q T G U H B O J V Y Z O9) k n) (g := True ∧ True) (by with_unfolding_all rfl) ⟨trivial, trivial⟩ ?_
          by_cases c9 : (am_bz r8) = 0
          · rw [if_pos c9] at h
            refine am_ev_pos c9 ?_
            refine am_ev_st 1 (f' := (85, [(0, .ref 0), (1, .int p1), (2, .int p2), (3, .int p3)], [.int (0 : Int32)], (W9 N C E F P Q T G U H B O J V Y Z O9), k, n)) (g := True ∧ True) (by with_unfolding_all rfl) ⟨trivial, trivial⟩ ?_
            cases h
            exact am_ev_ret 0 0 0 rfl .boolean rfl am_n0 rfl
          · rw [if_neg c9] at h
            refine am_ev_neg c9 ?_
            refine am_ev_st 3 (f' := (62, [(0, .ref 0), (1, .int p1), (2, .int p2), (3, .int p3)], [.int p3, .ref 1], (W9 N C E F P Q T G U H B O J V Y Z O9), k, n)) (g := True ∧ True ∧ True ∧ True) (by with_unfolding_all rfl) ⟨trivial, trivial, trivial, trivial⟩ ?_
            replace h := Option.bind_eq_some_iff.mp h
            obtain ⟨r10, hc10, h⟩ := h
            try dsimp only at h
            refine am_ev_call (.invokevirtual 67) 27 2 223 [.ref 1, .int p3] [] rfl rfl rfl rfl (ok_fN_isTerm hc10 D (by omega)) rfl ?_
            refine am_ev_st 1 (f' := am_br ((am_bz r10) = 0) 84 65 [(0, .ref 0), (1, .int p1), (2, .int p2), (3, .int p3)] [] (W9 N C E F P Q T G U H B O J V Y Z O9) k n) (g := True ∧ True) (by with_unfolding_all rfl) ⟨trivial, trivial⟩ ?_
            by_cases c11 : (am_bz r10) = 0
            · rw [if_pos c11] at h
              refine am_ev_pos c11 ?_
              refine am_ev_st 1 (f' := (85, [(0, .ref 0), (1, .int p1), (2, .int p2), (3, .int p3)], [.int (0 : Int32)], (W9 N C E F P Q T G U H B O J V Y Z O9), k, n)) (g := True ∧ True) (by with_unfolding_all rfl) ⟨trivial, trivial⟩ ?_
              cases h
              exact am_ev_ret 0 0 0 rfl .boolean rfl am_n0 rfl
            · rw [if_neg c11] at h
              refine am_ev_neg c11 ?_
              refine am_ev_st 4 (f' := (74, [(0, .ref 0), (1, .int p1), (2, .int p2), (3, .int p3)], [.int p3, .int p2, .ref 1], (W9 N C E F P Q T G U H B O J V Y Z O9), k, n)) (g := True ∧ True ∧ True ∧ True ∧ True) (by with_unfolding_all rfl) ⟨trivial, trivial, trivial, trivial, trivial⟩ ?_
              replace h := Option.bind_eq_some_iff.mp h
              obtain ⟨r12, hc12, h⟩ := h
              try dsimp only at h
              refine am_ev_call (.invokevirtual 154) 33 4 227 [.ref 1, .int p2, .int p3] [] rfl rfl rfl rfl (ok_fN_mayJoin hc12 D (by omega)) rfl ?_
              refine am_ev_st 1 (f' := am_br ((am_bz r12) = 0) 84 77 [(0, .ref 0), (1, .int p1), (2, .int p2), (3, .int p3)] [] (W9 N C E F P Q T G U H B O J V Y Z O9) k n) (g := True ∧ True) (by with_unfolding_all rfl) ⟨trivial, trivial⟩ ?_
              by_cases c13 : (am_bz r12) = 0
              · rw [if_pos c13] at h
                refine am_ev_pos c13 ?_
                refine am_ev_st 1 (f' := (85, [(0, .ref 0), (1, .int p1), (2, .int p2), (3, .int p3)], [.int (0 : Int32)], (W9 N C E F P Q T G U H B O J V Y Z O9), k, n)) (g := True ∧ True) (by with_unfolding_all rfl) ⟨trivial, trivial⟩ ?_
                cases h
                exact am_ev_ret 0 0 0 rfl .boolean rfl am_n0 rfl
              · rw [if_neg c13] at h
                refine am_ev_neg c13 ?_
                refine am_ev_st 2 (f' := (85, [(0, .ref 0), (1, .int p1), (2, .int p2), (3, .int p3)], [.int (1 : Int32)], (W9 N C E F P Q T G U H B O J V Y Z O9), k, n)) (g := True ∧ True ∧ True) (by with_unfolding_all rfl) ⟨trivial, trivial, trivial⟩ ?_
                cases h
                exact am_ev_ret 0 0 0 rfl .boolean rfl am_n1 rfl
      · rw [if_neg c5] at h
        refine am_ev_neg c5 ?_
        refine am_ev_st 3 (f' := (35, [(0, .ref 0), (1, .int p1), (2, .int p2), (3, .int p3)], [.int p2, .ref 7], (W9 N C E F P Q T G U H B O J V Y Z O9), k, n)) (g := True ∧ True ∧ True ∧ True) (by with_unfolding_all rfl) ⟨trivial, trivial, trivial, trivial⟩ ?_
        replace h := Option.bind_eq_some_iff.mp h
        obtain ⟨r14, hc14, h⟩ := h
        try dsimp only at h
        refine am_ev_call (.invokevirtual 131) 3 2 216 [.ref 7, .int p2] [] rfl rfl rfl rfl (ok_fC_isThere hc14 D (by omega)) rfl ?_
        cases h
        exact am_ev_ret 0 0 0 rfl .boolean rfl (am_bz_nar _) rfl
    · rw [if_neg c4] at h
      refine am_ev_neg c4 ?_
      refine am_ev_st 2 (f' := am_br (p2 < 0) 23 10 [(0, .ref 0), (1, .int p1), (2, .int p2), (3, .int p3)] [] (W9 N C E F P Q T G U H B O J V Y Z O9) k n) (g := True ∧ True ∧ True) (by with_unfolding_all rfl) ⟨trivial, trivial, trivial⟩ ?_
      by_cases c15 : p2 < 0
      · rw [if_pos c15] at h
        refine am_ev_pos c15 ?_
        refine am_ev_st 1 (f' := (24, [(0, .ref 0), (1, .int p1), (2, .int p2), (3, .int p3)], [.int (0 : Int32)], (W9 N C E F P Q T G U H B O J V Y Z O9), k, n)) (g := True ∧ True) (by with_unfolding_all rfl) ⟨trivial, trivial⟩ ?_
        cases h
        exact am_ev_ret 0 0 0 rfl .boolean rfl am_n0 rfl
      · rw [if_neg c15] at h
        refine am_ev_neg c15 ?_
        refine am_ev_st 3 (f' := am_br ((9 : Int32) < p2) 23 16 [(0, .ref 0), (1, .int p1), (2, .int p2), (3, .int p3)] [] (W9 N C E F P Q T G U H B O J V Y Z O9) k n) (g := True ∧ True ∧ True ∧ True) (by with_unfolding_all rfl) ⟨trivial, trivial, trivial, trivial⟩ ?_
        by_cases c16 : (9 : Int32) < p2
        · rw [if_pos c16] at h
          refine am_ev_pos c16 ?_
          refine am_ev_st 1 (f' := (24, [(0, .ref 0), (1, .int p1), (2, .int p2), (3, .int p3)], [.int (0 : Int32)], (W9 N C E F P Q T G U H B O J V Y Z O9), k, n)) (g := True ∧ True) (by with_unfolding_all rfl) ⟨trivial, trivial⟩ ?_
          cases h
          exact am_ev_ret 0 0 0 rfl .boolean rfl am_n0 rfl
        · rw [if_neg c16] at h
          refine am_ev_neg c16 ?_
          refine am_ev_st 2 (f' := (24, [(0, .ref 0), (1, .int p1), (2, .int p2), (3, .int p3)], [.int (1 : Int32)], (W9 N C E F P Q T G U H B O J V Y Z O9), k, n)) (g := True ∧ True ∧ True) (by with_unfolding_all rfl) ⟨trivial, trivial, trivial⟩ ?_
          cases h
          exact am_ev_ret 0 0 0 rfl .boolean rfl am_n1 rfl
def fJ_make (N : cN) (C : cC) (p1 p2 p3 : Int32) : Option (Int32 × cN) :=
  (fJ_mayBeMade N C p1 p2 p3).bind fun z1 =>
  match z1 with
  | (r1) =>
  if (am_bz r1) ≠ 0 then
  ((fJ_hasParts p1).bind fun z3 =>
  match z3 with
  | (r3) =>
  if (am_bz r3) = 0 then
  ((fN_addTerm N p1 p2 (-1 : Int32)).bind fun z5 =>
  match z5 with
  | (r5, N_5) =>
  some (r5, N_5))
  else
  (fN_addTerm N p1 p2 p3).bind fun z6 =>
  match z6 with
  | (r6, N_6) =>
  some (r6, N_6))
  else
  some ((-1 : Int32), N)
set_option maxHeartbeats 4000000 in
set_option maxRecDepth 100000 in
theorem ok_fJ_make  {N : cN} {C : cC} {E : cE} {F : cF} {P : cP} {Q : cQ} {T : cT} {G : cG} {U : cU} {H : cH} {B : cB} {O : cO} {J : cJ} {V : cV} {Y : cY} {Z : cZ} {O9 : cO9} {k n : Nat} {p1 p2 p3 : Int32} {rv : Int32} {N' : cN} (h : fJ_make N C p1 p2 p3 = some (rv, N')) (D : Nat) (hD : 4 ≤ D) : am_Call D 56 [.ref 0, .int p1, .int p2, .int p3] (W9 N C E F P Q T G U H B O J V Y Z O9) k n (.inl (some (.int rv)), W9 N' C E F P Q T G U H B O J V Y Z O9, k, n) := by
  unfold fJ_make at h
  obtain ⟨D, rfl⟩ : ∃ D', D = D' + 1 := ⟨D - 1, by omega⟩
  have hD : 3 ≤ D := by omega
  refine am_call_run (by decide) (by decide) rfl (Nat.le_of_ble_eq_true rfl) (by decide) (L := [(0, .ref 0), (1, .int p1), (2, .int p2), (3, .int p3)]) rfl ?_
  refine am_ev_st 4 (f' := (4, [(0, .ref 0), (1, .int p1), (2, .int p2), (3, .int p3)], [.int p3, .int p2, .int p1, .ref 0], (W9 N C E F P Q T G U H B O J V Y Z O9), k, n)) (g := True ∧ True ∧ True ∧ True ∧ True) (by with_unfolding_all rfl) ⟨trivial, trivial, trivial, trivial, trivial⟩ ?_
  replace h := Option.bind_eq_some_iff.mp h
  obtain ⟨r1, hc1, h⟩ := h
  try dsimp only at h
  refine am_ev_call (.invokevirtual 51) 72 6 212 [.ref 0, .int p1, .int p2, .int p3] [] rfl rfl rfl rfl (ok_fJ_mayBeMade hc1 D (by omega)) rfl ?_
  refine am_ev_st 1 (f' := am_br ((am_bz r1) ≠ 0) 12 7 [(0, .ref 0), (1, .int p1), (2, .int p2), (3, .int p3)] [] (W9 N C E F P Q T G U H B O J V Y Z O9) k n) (g := True ∧ True) (by with_unfolding_all rfl) ⟨trivial, trivial⟩ ?_
  by_cases c2 : (am_bz r1) ≠ 0
  · rw [if_pos c2] at h
    refine am_ev_pos c2 ?_
    refine am_ev_st 5 (f' := (19, [(0, .ref 0), (1, .int p1), (2, .int p2), (3, .int p3)], [.int p1, .int p2, .int p1, .ref 1], (W9 N C E F P Q T G U H B O J V Y Z O9), k, n)) (g := True ∧ True ∧ True ∧ True ∧ True ∧ True) (by with_unfolding_all rfl) ⟨trivial, trivial, trivial, trivial, trivial, trivial⟩ ?_
    replace h := Option.bind_eq_some_iff.mp h
    obtain ⟨r3, hc3, h⟩ := h
    try dsimp only at h
    refine am_ev_call (.invokestatic 55) 71 2 220 [.int p1] [.int p2, .int p1, .ref 1] rfl rfl rfl rfl (ok_fJ_hasParts hc3 D (by omega)) rfl ?_
    refine am_ev_st 1 (f' := am_br ((am_bz r3) = 0) 29 22 [(0, .ref 0), (1, .int p1), (2, .int p2), (3, .int p3)] [.int p2, .int p1, .ref 1] (W9 N C E F P Q T G U H B O J V Y Z O9) k n) (g := True ∧ True) (by with_unfolding_all rfl) ⟨trivial, trivial⟩ ?_
    by_cases c4 : (am_bz r3) = 0
    · rw [if_pos c4] at h
      refine am_ev_pos c4 ?_
      refine am_ev_st 1 (f' := (30, [(0, .ref 0), (1, .int p1), (2, .int p2), (3, .int p3)], [.int (-1 : Int32), .int p2, .int p1, .ref 1], (W9 N C E F P Q T G U H B O J V Y Z O9), k, n)) (g := True ∧ True) (by with_unfolding_all rfl) ⟨trivial, trivial⟩ ?_
      replace h := Option.bind_eq_some_iff.mp h
      obtain ⟨⟨r5, N_5⟩, hc5, h⟩ := h
      try dsimp only at h
      refine am_ev_call (.invokevirtual 59) 35 6 242 [.ref 1, .int p1, .int p2, .int (-1 : Int32)] [] rfl rfl rfl rfl (ok_fN_addTerm hc5 D (by omega)) rfl ?_
      cases h
      exact am_ev_ret 0 0 0 rfl .int rfl rfl rfl
    · rw [if_neg c4] at h
      refine am_ev_neg c4 ?_
      refine am_ev_st 2 (f' := (30, [(0, .ref 0), (1, .int p1), (2, .int p2), (3, .int p3)], [.int p3, .int p2, .int p1, .ref 1], (W9 N C E F P Q T G U H B O J V Y Z O9), k, n)) (g := True ∧ True ∧ True) (by with_unfolding_all rfl) ⟨trivial, trivial, trivial⟩ ?_
      replace h := Option.bind_eq_some_iff.mp h
      obtain ⟨⟨r6, N_6⟩, hc6, h⟩ := h
      try dsimp only at h
      refine am_ev_call (.invokevirtual 59) 35 6 242 [.ref 1, .int p1, .int p2, .int p3] [] rfl rfl rfl rfl (ok_fN_addTerm hc6 D (by omega)) rfl ?_
      cases h
      exact am_ev_ret 0 0 0 rfl .int rfl rfl rfl
  · rw [if_neg c2] at h
    refine am_ev_neg c2 ?_
    refine am_ev_st 1 (f' := (11, [(0, .ref 0), (1, .int p1), (2, .int p2), (3, .int p3)], [.int (-1 : Int32)], (W9 N C E F P Q T G U H B O J V Y Z O9), k, n)) (g := True ∧ True) (by with_unfolding_all rfl) ⟨trivial, trivial⟩ ?_
    cases h
    exact am_ev_ret 0 0 0 rfl .int rfl rfl rfl
def fN_termCount (N : cN) : Option (Int32) :=
  match N with
  | (nK, nL, nR, nS, nD, cap, mt, le, en) =>
  some mt
set_option maxHeartbeats 4000000 in
set_option maxRecDepth 100000 in
theorem ok_fN_termCount  {N : cN} {C : cC} {E : cE} {F : cF} {P : cP} {Q : cQ} {T : cT} {G : cG} {U : cU} {H : cH} {B : cB} {O : cO} {J : cJ} {V : cV} {Y : cY} {Z : cZ} {O9 : cO9} {k n : Nat} {rv : Int32} (h : fN_termCount N = some rv) (D : Nat) (hD : 1 ≤ D) : am_Call D 26 [.ref 1] (W9 N C E F P Q T G U H B O J V Y Z O9) k n (.inl (some (.int rv)), W9 N C E F P Q T G U H B O J V Y Z O9, k, n) := by
  unfold fN_termCount at h
  obtain ⟨D, rfl⟩ : ∃ D', D = D' + 1 := ⟨D - 1, by omega⟩
  have hD : 0 ≤ D := by omega
  refine am_call_run (by decide) (by decide) rfl (Nat.le_of_ble_eq_true rfl) (by decide) (L := [(0, .ref 1)]) rfl ?_
  obtain ⟨nK, nL, nR, nS, nD, cap, mt, le, en⟩ := N
  try dsimp only at h
  refine am_ev_st 2 (f' := (4, [(0, .ref 1)], [.int mt], (W9 (nK, nL, nR, nS, nD, cap, mt, le, en) C E F P Q T G U H B O J V Y Z O9), k, n)) (g := True ∧ True ∧ True) (by with_unfolding_all rfl) ⟨trivial, trivial, trivial⟩ ?_
  cases h
  exact am_ev_ret 0 0 0 rfl .int rfl rfl rfl
def fJ_terms (N : cN) : Option (Int32) :=
  (fN_termCount N).bind fun z1 =>
  match z1 with
  | (r1) =>
  some r1
set_option maxHeartbeats 4000000 in
set_option maxRecDepth 100000 in
theorem ok_fJ_terms  {N : cN} {C : cC} {E : cE} {F : cF} {P : cP} {Q : cQ} {T : cT} {G : cG} {U : cU} {H : cH} {B : cB} {O : cO} {J : cJ} {V : cV} {Y : cY} {Z : cZ} {O9 : cO9} {k n : Nat} {rv : Int32} (h : fJ_terms N = some rv) (D : Nat) (hD : 2 ≤ D) : am_Call D 57 [.ref 0] (W9 N C E F P Q T G U H B O J V Y Z O9) k n (.inl (some (.int rv)), W9 N C E F P Q T G U H B O J V Y Z O9, k, n) := by
  unfold fJ_terms at h
  obtain ⟨D, rfl⟩ : ∃ D', D = D' + 1 := ⟨D - 1, by omega⟩
  have hD : 1 ≤ D := by omega
  refine am_call_run (by decide) (by decide) rfl (Nat.le_of_ble_eq_true rfl) (by decide) (L := [(0, .ref 0)]) rfl ?_
  refine am_ev_st 2 (f' := (4, [(0, .ref 0)], [.ref 1], (W9 N C E F P Q T G U H B O J V Y Z O9), k, n)) (g := True ∧ True ∧ True) (by with_unfolding_all rfl) ⟨trivial, trivial, trivial⟩ ?_
  replace h := Option.bind_eq_some_iff.mp h
  obtain ⟨r1, hc1, h⟩ := h
  try dsimp only at h
  refine am_ev_call (.invokevirtual 63) 26 0 254 [.ref 1] [] rfl rfl rfl rfl (ok_fN_termCount hc1 D (by omega)) rfl ?_
  cases h
  exact am_ev_ret 0 0 0 rfl .int rfl rfl rfl
def fJ_term (N : cN) (p1 p2 : Int32) : Option (Int32) :=
  (fN_isTerm N p1).bind fun z1 =>
  match z1 with
  | (r1) =>
  if (am_bz r1) ≠ 0 then
  (if p2 = (0 : Int32) then
  ((fN_kindOf N p1).bind fun z4 =>
  match z4 with
  | (r4) =>
  some r4)
  else
  if p2 = (1 : Int32) then
  ((fN_leftOf N p1).bind fun z6 =>
  match z6 with
  | (r6) =>
  some r6)
  else
  if p2 = (2 : Int32) then
  ((fN_rightOf N p1).bind fun z8 =>
  match z8 with
  | (r8) =>
  some r8)
  else
  if p2 = (3 : Int32) then
  ((fN_sizeOf N p1).bind fun z10 =>
  match z10 with
  | (r10) =>
  some r10)
  else
  if p2 = (4 : Int32) then
  ((fN_depthOf N p1).bind fun z12 =>
  match z12 with
  | (r12) =>
  some r12)
  else
  some (-1 : Int32))
  else
  some (-1 : Int32)
set_option maxHeartbeats 4000000 in
set_option maxRecDepth 100000 in
theorem ok_fJ_term  {N : cN} {C : cC} {E : cE} {F : cF} {P : cP} {Q : cQ} {T : cT} {G : cG} {U : cU} {H : cH} {B : cB} {O : cO} {J : cJ} {V : cV} {Y : cY} {Z : cZ} {O9 : cO9} {k n : Nat} {p1 p2 : Int32} {rv : Int32} (h : fJ_term N p1 p2 = some rv) (D : Nat) (hD : 2 ≤ D) : am_Call D 58 [.ref 0, .int p1, .int p2] (W9 N C E F P Q T G U H B O J V Y Z O9) k n (.inl (some (.int rv)), W9 N C E F P Q T G U H B O J V Y Z O9, k, n) := by
  unfold fJ_term at h
  obtain ⟨D, rfl⟩ : ∃ D', D = D' + 1 := ⟨D - 1, by omega⟩
  have hD : 1 ≤ D := by omega
  refine am_call_run (by decide) (by decide) rfl (Nat.le_of_ble_eq_true rfl) (by decide) (L := [(0, .ref 0), (1, .int p1), (2, .int p2)]) rfl ?_
  refine am_ev_st 3 (f' := (5, [(0, .ref 0), (1, .int p1), (2, .int p2)], [.int p1, .ref 1], (W9 N C E F P Q T G U H B O J V Y Z O9), k, n)) (g := True ∧ True ∧ True ∧ True) (by with_unfolding_all rfl) ⟨trivial, trivial, trivial, trivial⟩ ?_
  replace h := Option.bind_eq_some_iff.mp h
  obtain ⟨r1, hc1, h⟩ := h
  try dsimp only at h
  refine am_ev_call (.invokevirtual 67) 27 2 223 [.ref 1, .int p1] [] rfl rfl rfl rfl (ok_fN_isTerm hc1 D (by omega)) rfl ?_
  refine am_ev_st 1 (f' := am_br ((am_bz r1) ≠ 0) 13 8 [(0, .ref 0), (1, .int p1), (2, .int p2)] [] (W9 N C E F P Q T G U H B O J V Y Z O9) k n) (g := True ∧ True) (by with_unfolding_all rfl) ⟨trivial, trivial⟩ ?_
  by_cases c2 : (am_bz r1) ≠ 0
  · rw [if_pos c2] at h
    refine am_ev_pos c2 ?_
    refine am_ev_st 2 (f' := ((am_tg [(0, 48), (1, 57), (2, 66), (3, 75), (4, 84)] 93 p2), [(0, .ref 0), (1, .int p1), (2, .int p2)], [], (W9 N C E F P Q T G U H B O J V Y Z O9), k, n)) (g := True ∧ True ∧ True) (by with_unfolding_all rfl) ⟨trivial, trivial, trivial⟩ ?_
    by_cases c3 : p2 = (0 : Int32)
    · rw [if_pos c3] at h
      refine am_ev_sweq c3 ?_
      refine am_ev_st 3 (f' := (53, [(0, .ref 0), (1, .int p1), (2, .int p2)], [.int p1, .ref 1], (W9 N C E F P Q T G U H B O J V Y Z O9), k, n)) (g := True ∧ True ∧ True ∧ True) (by with_unfolding_all rfl) ⟨trivial, trivial, trivial, trivial⟩ ?_
      replace h := Option.bind_eq_some_iff.mp h
      obtain ⟨r4, hc4, h⟩ := h
      try dsimp only at h
      refine am_ev_call (.invokevirtual 70) 28 2 262 [.ref 1, .int p1] [] rfl rfl rfl rfl (ok_fN_kindOf hc4 D (by omega)) rfl ?_
      cases h
      exact am_ev_ret 0 0 0 rfl .int rfl rfl rfl
    rw [if_neg c3] at h
    refine am_ev_swne c3 ?_
    by_cases c5 : p2 = (1 : Int32)
    · rw [if_pos c5] at h
      refine am_ev_sweq c5 ?_
      refine am_ev_st 3 (f' := (62, [(0, .ref 0), (1, .int p1), (2, .int p2)], [.int p1, .ref 1], (W9 N C E F P Q T G U H B O J V Y Z O9), k, n)) (g := True ∧ True ∧ True ∧ True) (by with_unfolding_all rfl) ⟨trivial, trivial, trivial, trivial⟩ ?_
      replace h := Option.bind_eq_some_iff.mp h
      obtain ⟨r6, hc6, h⟩ := h
      try dsimp only at h
      refine am_ev_call (.invokevirtual 74) 29 2 266 [.ref 1, .int p1] [] rfl rfl rfl rfl (ok_fN_leftOf hc6 D (by omega)) rfl ?_
      cases h
      exact am_ev_ret 0 0 0 rfl .int rfl rfl rfl
    rw [if_neg c5] at h
    refine am_ev_swne c5 ?_
    by_cases c7 : p2 = (2 : Int32)
    · rw [if_pos c7] at h
      refine am_ev_sweq c7 ?_
      refine am_ev_st 3 (f' := (71, [(0, .ref 0), (1, .int p1), (2, .int p2)], [.int p1, .ref 1], (W9 N C E F P Q T G U H B O J V Y Z O9), k, n)) (g := True ∧ True ∧ True ∧ True) (by with_unfolding_all rfl) ⟨trivial, trivial, trivial, trivial⟩ ?_
      replace h := Option.bind_eq_some_iff.mp h
      obtain ⟨r8, hc8, h⟩ := h
      try dsimp only at h
      refine am_ev_call (.invokevirtual 77) 30 2 270 [.ref 1, .int p1] [] rfl rfl rfl rfl (ok_fN_rightOf hc8 D (by omega)) rfl ?_
      cases h
      exact am_ev_ret 0 0 0 rfl .int rfl rfl rfl
    rw [if_neg c7] at h
    refine am_ev_swne c7 ?_
    by_cases c9 : p2 = (3 : Int32)
    · rw [if_pos c9] at h
      refine am_ev_sweq c9 ?_
      refine am_ev_st 3 (f' := (80, [(0, .ref 0), (1, .int p1), (2, .int p2)], [.int p1, .ref 1], (W9 N C E F P Q T G U H B O J V Y Z O9), k, n)) (g := True ∧ True ∧ True ∧ True) (by with_unfolding_all rfl) ⟨trivial, trivial, trivial, trivial⟩ ?_
      replace h := Option.bind_eq_some_iff.mp h
      obtain ⟨r10, hc10, h⟩ := h
      try dsimp only at h
      refine am_ev_call (.invokevirtual 80) 31 2 274 [.ref 1, .int p1] [] rfl rfl rfl rfl (ok_fN_sizeOf hc10 D (by omega)) rfl ?_
      cases h
      exact am_ev_ret 0 0 0 rfl .int rfl rfl rfl
    rw [if_neg c9] at h
    refine am_ev_swne c9 ?_
    by_cases c11 : p2 = (4 : Int32)
    · rw [if_pos c11] at h
      refine am_ev_sweq c11 ?_
      refine am_ev_st 3 (f' := (89, [(0, .ref 0), (1, .int p1), (2, .int p2)], [.int p1, .ref 1], (W9 N C E F P Q T G U H B O J V Y Z O9), k, n)) (g := True ∧ True ∧ True ∧ True) (by with_unfolding_all rfl) ⟨trivial, trivial, trivial, trivial⟩ ?_
      replace h := Option.bind_eq_some_iff.mp h
      obtain ⟨r12, hc12, h⟩ := h
      try dsimp only at h
      refine am_ev_call (.invokevirtual 83) 32 2 275 [.ref 1, .int p1] [] rfl rfl rfl rfl (ok_fN_depthOf hc12 D (by omega)) rfl ?_
      cases h
      exact am_ev_ret 0 0 0 rfl .int rfl rfl rfl
    rw [if_neg c11] at h
    refine am_ev_swne c11 ?_
    refine am_ev_sw0 ?_
    refine am_ev_st 1 (f' := (94, [(0, .ref 0), (1, .int p1), (2, .int p2)], [.int (-1 : Int32)], (W9 N C E F P Q T G U H B O J V Y Z O9), k, n)) (g := True ∧ True) (by with_unfolding_all rfl) ⟨trivial, trivial⟩ ?_
    cases h
    exact am_ev_ret 0 0 0 rfl .int rfl rfl rfl
  · rw [if_neg c2] at h
    refine am_ev_neg c2 ?_
    refine am_ev_st 1 (f' := (12, [(0, .ref 0), (1, .int p1), (2, .int p2)], [.int (-1 : Int32)], (W9 N C E F P Q T G U H B O J V Y Z O9), k, n)) (g := True ∧ True) (by with_unfolding_all rfl) ⟨trivial, trivial⟩ ?_
    cases h
    exact am_ev_ret 0 0 0 rfl .int rfl rfl rfl
def fC_count (C : cC) : Option (Int32) :=
  match C with
  | (ct, cb, cm) =>
  some cm
set_option maxHeartbeats 4000000 in
set_option maxRecDepth 100000 in
theorem ok_fC_count  {N : cN} {C : cC} {E : cE} {F : cF} {P : cP} {Q : cQ} {T : cT} {G : cG} {U : cU} {H : cH} {B : cB} {O : cO} {J : cJ} {V : cV} {Y : cY} {Z : cZ} {O9 : cO9} {k n : Nat} {rv : Int32} (h : fC_count C = some rv) (D : Nat) (hD : 1 ≤ D) : am_Call D 1 [.ref 7] (W9 N C E F P Q T G U H B O J V Y Z O9) k n (.inl (some (.int rv)), W9 N C E F P Q T G U H B O J V Y Z O9, k, n) := by
  unfold fC_count at h
  obtain ⟨D, rfl⟩ : ∃ D', D = D' + 1 := ⟨D - 1, by omega⟩
  have hD : 0 ≤ D := by omega
  refine am_call_run (by decide) (by decide) rfl (Nat.le_of_ble_eq_true rfl) (by decide) (L := [(0, .ref 7)]) rfl ?_
  obtain ⟨ct, cb, cm⟩ := C
  try dsimp only at h
  refine am_ev_st 2 (f' := (4, [(0, .ref 7)], [.int cm], (W9 N (ct, cb, cm) E F P Q T G U H B O J V Y Z O9), k, n)) (g := True ∧ True ∧ True) (by with_unfolding_all rfl) ⟨trivial, trivial, trivial⟩ ?_
  cases h
  exact am_ev_ret 0 0 0 rfl .int rfl rfl rfl
def fJ_constants (C : cC) : Option (Int32) :=
  (fC_count C).bind fun z1 =>
  match z1 with
  | (r1) =>
  some r1
set_option maxHeartbeats 4000000 in
set_option maxRecDepth 100000 in
theorem ok_fJ_constants  {N : cN} {C : cC} {E : cE} {F : cF} {P : cP} {Q : cQ} {T : cT} {G : cG} {U : cU} {H : cH} {B : cB} {O : cO} {J : cJ} {V : cV} {Y : cY} {Z : cZ} {O9 : cO9} {k n : Nat} {rv : Int32} (h : fJ_constants C = some rv) (D : Nat) (hD : 2 ≤ D) : am_Call D 65 [.ref 0] (W9 N C E F P Q T G U H B O J V Y Z O9) k n (.inl (some (.int rv)), W9 N C E F P Q T G U H B O J V Y Z O9, k, n) := by
  unfold fJ_constants at h
  obtain ⟨D, rfl⟩ : ∃ D', D = D' + 1 := ⟨D - 1, by omega⟩
  have hD : 1 ≤ D := by omega
  refine am_call_run (by decide) (by decide) rfl (Nat.le_of_ble_eq_true rfl) (by decide) (L := [(0, .ref 0)]) rfl ?_
  refine am_ev_st 2 (f' := (4, [(0, .ref 0)], [.ref 7], (W9 N C E F P Q T G U H B O J V Y Z O9), k, n)) (g := True ∧ True ∧ True) (by with_unfolding_all rfl) ⟨trivial, trivial, trivial⟩ ?_
  replace h := Option.bind_eq_some_iff.mp h
  obtain ⟨r1, hc1, h⟩ := h
  try dsimp only at h
  refine am_ev_call (.invokevirtual 125) 1 0 280 [.ref 7] [] rfl rfl rfl rfl (ok_fC_count hc1 D (by omega)) rfl ?_
  cases h
  exact am_ev_ret 0 0 0 rfl .int rfl rfl rfl
def fJ_hasBody (C : cC) (p1 : Int32) : Option (Bool) :=
  (fC_bodyAt C p1).bind fun z1 =>
  match z1 with
  | (r1) =>
  if r1 = (-1 : Int32) then
  (some false)
  else
  some true
set_option maxHeartbeats 4000000 in
set_option maxRecDepth 100000 in
theorem ok_fJ_hasBody  {N : cN} {C : cC} {E : cE} {F : cF} {P : cP} {Q : cQ} {T : cT} {G : cG} {U : cU} {H : cH} {B : cB} {O : cO} {J : cJ} {V : cV} {Y : cY} {Z : cZ} {O9 : cO9} {k n : Nat} {p1 : Int32} {rv : Bool} (h : fJ_hasBody C p1 = some rv) (D : Nat) (hD : 3 ≤ D) : am_Call D 66 [.ref 0, .int p1] (W9 N C E F P Q T G U H B O J V Y Z O9) k n (.inl (some (.int (am_bz rv))), W9 N C E F P Q T G U H B O J V Y Z O9, k, n) := by
  unfold fJ_hasBody at h
  obtain ⟨D, rfl⟩ : ∃ D', D = D' + 1 := ⟨D - 1, by omega⟩
  have hD : 2 ≤ D := by omega
  refine am_call_run (by decide) (by decide) rfl (Nat.le_of_ble_eq_true rfl) (by decide) (L := [(0, .ref 0), (1, .int p1)]) rfl ?_
  refine am_ev_st 3 (f' := (5, [(0, .ref 0), (1, .int p1)], [.int p1, .ref 7], (W9 N C E F P Q T G U H B O J V Y Z O9), k, n)) (g := True ∧ True ∧ True ∧ True) (by with_unfolding_all rfl) ⟨trivial, trivial, trivial, trivial⟩ ?_
  replace h := Option.bind_eq_some_iff.mp h
  obtain ⟨r1, hc1, h⟩ := h
  try dsimp only at h
  refine am_ev_call (.invokevirtual 128) 5 2 288 [.ref 7, .int p1] [] rfl rfl rfl rfl (ok_fC_bodyAt hc1 D (by omega)) rfl ?_
  refine am_ev_st 2 (f' := am_br (r1 = (-1 : Int32)) 16 9 [(0, .ref 0), (1, .int p1)] [] (W9 N C E F P Q T G U H B O J V Y Z O9) k n) (g := True ∧ True ∧ True) (by with_unfolding_all rfl) ⟨trivial, trivial, trivial⟩ ?_
  by_cases c2 : r1 = (-1 : Int32)
  · rw [if_pos c2] at h
    refine am_ev_pos c2 ?_
    refine am_ev_st 1 (f' := (17, [(0, .ref 0), (1, .int p1)], [.int (0 : Int32)], (W9 N C E F P Q T G U H B O J V Y Z O9), k, n)) (g := True ∧ True) (by with_unfolding_all rfl) ⟨trivial, trivial⟩ ?_
    cases h
    exact am_ev_ret 0 0 0 rfl .boolean rfl am_n0 rfl
  · rw [if_neg c2] at h
    refine am_ev_neg c2 ?_
    refine am_ev_st 2 (f' := (17, [(0, .ref 0), (1, .int p1)], [.int (1 : Int32)], (W9 N C E F P Q T G U H B O J V Y Z O9), k, n)) (g := True ∧ True ∧ True) (by with_unfolding_all rfl) ⟨trivial, trivial, trivial⟩ ?_
    cases h
    exact am_ev_ret 0 0 0 rfl .boolean rfl am_n1 rfl
def fJ_typeOf (d : Nat) (N : cN) (C : cC) (P : cP) (p1 : Int32) : Option (Int32 × cP) :=
  (fC_isThere C p1).bind fun z1 =>
  match z1 with
  | (r1) =>
  if (am_bz r1) ≠ 0 then
  ((fC_typeAt C p1).bind fun z3 =>
  match z3 with
  | (r3) =>
  (fM_write_P d N P r3).bind fun z4 =>
  match z4 with
  | (r4, P_4) =>
  some (r4, P_4))
  else
  some ((-1 : Int32), P)
set_option maxHeartbeats 4000000 in
set_option maxRecDepth 100000 in
theorem ok_fJ_typeOf {d : Nat} {N : cN} {C : cC} {E : cE} {F : cF} {P : cP} {Q : cQ} {T : cT} {G : cG} {U : cU} {H : cH} {B : cB} {O : cO} {J : cJ} {V : cV} {Y : cY} {Z : cZ} {O9 : cO9} {k n : Nat} {p1 : Int32} {rv : Int32} {P' : cP} (h : fJ_typeOf d N C P p1 = some (rv, P')) (D : Nat) (hD : d + 3 ≤ D) : am_Call D 67 [.ref 0, .int p1] (W9 N C E F P Q T G U H B O J V Y Z O9) k n (.inl (some (.int rv)), W9 N C E F P' Q T G U H B O J V Y Z O9, k, n) := by
  unfold fJ_typeOf at h
  obtain ⟨D, rfl⟩ : ∃ D', D = D' + 1 := ⟨D - 1, by omega⟩
  have hD : d + 2 ≤ D := by omega
  refine am_call_run (by decide) (by decide) rfl (Nat.le_of_ble_eq_true rfl) (by decide) (L := [(0, .ref 0), (1, .int p1)]) rfl ?_
  refine am_ev_st 3 (f' := (5, [(0, .ref 0), (1, .int p1)], [.int p1, .ref 7], (W9 N C E F P Q T G U H B O J V Y Z O9), k, n)) (g := True ∧ True ∧ True ∧ True) (by with_unfolding_all rfl) ⟨trivial, trivial, trivial, trivial⟩ ?_
  replace h := Option.bind_eq_some_iff.mp h
  obtain ⟨r1, hc1, h⟩ := h
  try dsimp only at h
  refine am_ev_call (.invokevirtual 131) 3 2 216 [.ref 7, .int p1] [] rfl rfl rfl rfl (ok_fC_isThere hc1 D (by omega)) rfl ?_
  refine am_ev_st 1 (f' := am_br ((am_bz r1) ≠ 0) 13 8 [(0, .ref 0), (1, .int p1)] [] (W9 N C E F P Q T G U H B O J V Y Z O9) k n) (g := True ∧ True) (by with_unfolding_all rfl) ⟨trivial, trivial⟩ ?_
  by_cases c2 : (am_bz r1) ≠ 0
  · rw [if_pos c2] at h
    refine am_ev_pos c2 ?_
    refine am_ev_st 7 (f' := (26, [(0, .ref 0), (1, .int p1)], [.int p1, .ref 7, .ref 1, .ref 15], (W9 N C E F P Q T G U H B O J V Y Z O9), k, n)) (g := True ∧ True ∧ True ∧ True ∧ True ∧ True ∧ True ∧ True) (by with_unfolding_all rfl) ⟨trivial, trivial, trivial, trivial, trivial, trivial, trivial, trivial⟩ ?_
    replace h := Option.bind_eq_some_iff.mp h
    obtain ⟨r3, hc3, h⟩ := h
    try dsimp only at h
    refine am_ev_call (.invokevirtual 134) 4 2 297 [.ref 7, .int p1] [.ref 1, .ref 15] rfl rfl rfl rfl (ok_fC_typeAt hc3 D (by omega)) rfl ?_
    replace h := Option.bind_eq_some_iff.mp h
    obtain ⟨⟨r4, P_4⟩, hc4, h⟩ := h
    try dsimp only at h
    refine am_ev_call (.invokevirtual 93) 21 4 301 [.ref 15, .ref 1, .int r3] [] rfl rfl rfl rfl (ok_fM_write_P hc4 D (by omega)) rfl ?_
    cases h
    exact am_ev_ret 0 0 0 rfl .int rfl rfl rfl
  · rw [if_neg c2] at h
    refine am_ev_neg c2 ?_
    refine am_ev_st 1 (f' := (12, [(0, .ref 0), (1, .int p1)], [.int (-1 : Int32)], (W9 N C E F P Q T G U H B O J V Y Z O9), k, n)) (g := True ∧ True) (by with_unfolding_all rfl) ⟨trivial, trivial⟩ ?_
    cases h
    exact am_ev_ret 0 0 0 rfl .int rfl rfl rfl
