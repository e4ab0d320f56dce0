def fJ_infer (fl : Nat) (d : Nat) (N : cN) (C : cC) (E : cE) (F : cF) (P : cP) (k n : Nat) (p1 p2 : Int32) : Option (((Int32) ⊕ Nat) × cN × cE × cF × cP × (Nat × Nat)) :=
  (fJ_begin N E F k n p1 p1 p2).bind fun z1 =>
  match z1 with
  | (.inl (), N_1, E_1, F_1, (k_1, n_1)) =>
  ((fF_typeFound fl d N_1 C E_1 F_1 k_1 n_1 p1).bind fun z2 =>
  match z2 with
  | (.inl r2, N_2, E_2, F_2, (k_2, n_2)) =>
  ((fM_write_P d N_2 P r2).bind fun z3 =>
  match z3 with
  | (r3, P_3) =>
  some (.inl r3, N_2, E_2, F_2, P_3, (k_2, n_2)))
  | (.inr e2, N_2, E_2, F_2, (k_2, n_2)) =>
  (some (.inr e2, N_2, E_2, F_2, P, (k_2, n_2))))
  | (.inr e1, N_1, E_1, F_1, (k_1, n_1)) =>
  (some (.inr e1, N_1, E_1, F_1, P, (k_1, n_1)))
set_option maxHeartbeats 4000000 in
set_option maxRecDepth 100000 in
theorem ok_fJ_infer {fl d : Nat} {N : cN} {C : cC} {E : cE} {F : cF} {P : cP} {Q : cQ} {T : cT} {G : cG} {U : cU} {H : cH} {B : cB} {O : cO} {J : cJ} {V : cV} {Y : cY} {Z : cZ} {O9 : cO9} {k n : Nat} {p1 p2 : Int32} {rv : (Int32) ⊕ Nat} {N' : cN} {E' : cE} {F' : cF} {P' : cP} {k' n' : Nat} (h : fJ_infer fl d N C E F P k n p1 p2 = some (rv, N', E', F', P', (k', n'))) (D : Nat) (hD : d + 6 ≤ D) : am_Call D 59 [.ref 0, .int p1, .int p2] (W9 N C E F P Q T G U H B O J V Y Z O9) k n (am_oI rv, W9 N' C E' F' P' Q T G U H B O J V Y Z O9, k', n') := by
  unfold fJ_infer at h
  obtain ⟨D, rfl⟩ : ∃ D', D = D' + 1 := ⟨D - 1, by omega⟩
  have hD : d + 5 ≤ D := by omega
  refine am_call_run (by decide) (by decide) rfl (Nat.le_of_ble_eq_true rfl) (by decide) (L := [(0, .ref 0), (1, .int p1), (2, .int p2)]) rfl ?_
  refine am_ev_st 4 (f' := (4, [(0, .ref 0), (1, .int p1), (2, .int p2)], [.int p2, .int p1, .int p1, .ref 0], (W9 N C E F P Q T G U H B O J V Y Z O9), k, n)) (g := True ∧ True ∧ True ∧ True ∧ True) (by with_unfolding_all rfl) ⟨trivial, trivial, trivial, trivial, trivial⟩ ?_
  replace h := Option.bind_eq_some_iff.mp h
  obtain ⟨⟨⟨⟩ | e1, N_1, E_1, F_1, ⟨k_1, n_1⟩⟩, hc1, h⟩ := h
  · dsimp only at h
    refine am_ev_call (.invokevirtual 86) 73 6 465 [.ref 0, .int p1, .int p1, .int p2] [] rfl rfl rfl rfl (ok_fJ_begin hc1 D (by omega)) rfl ?_
    refine am_ev_st 7 (f' := (20, [(0, .ref 0), (1, .int p1), (2, .int p2)], [.int p1, .ref 13, .ref 1, .ref 15], (W9 N_1 C E_1 F_1 P Q T G U H B O J V Y Z O9), k_1, n_1)) (g := True ∧ True ∧ True ∧ True ∧ True ∧ True ∧ True ∧ True) (by with_unfolding_all rfl) ⟨trivial, trivial, trivial, trivial, trivial, trivial, trivial, trivial⟩ ?_
    replace h := Option.bind_eq_some_iff.mp h
    obtain ⟨⟨r2 | e2, N_2, E_2, F_2, ⟨k_2, n_2⟩⟩, hc2, h⟩ := h
    · dsimp only at h
      refine am_ev_call (.invokevirtual 90) 9 2 497 [.ref 13, .int p1] [.ref 1, .ref 15] rfl rfl rfl rfl (ok_fF_typeFound hc2 D (by omega)) rfl ?_
      replace h := Option.bind_eq_some_iff.mp h
      obtain ⟨⟨r3, P_3⟩, hc3, h⟩ := h
      try dsimp only at h
      refine am_ev_call (.invokevirtual 93) 21 4 301 [.ref 15, .ref 1, .int r2] [] rfl rfl rfl rfl (ok_fM_write_P hc3 D (by omega)) rfl ?_
      cases h
      exact am_ev_ret 0 0 0 rfl .int rfl rfl rfl
    · dsimp only at h
      cases h
      exact am_ev_callx (.invokevirtual 90) 9 2 497 [.ref 13, .int p1] [.ref 1, .ref 15] rfl rfl rfl rfl (ok_fF_typeFound hc2 D (by omega)) rfl rfl rfl
  · dsimp only at h
    cases h
    exact am_ev_callx (.invokevirtual 86) 73 6 465 [.ref 0, .int p1, .int p1, .int p2] [] rfl rfl rfl rfl (ok_fJ_begin hc1 D (by omega)) rfl rfl rfl
def fL_infer (fl : Nat) (d : Nat) (N : cN) (C : cC) (E : cE) (F : cF) (P : cP) (O9 : cO9) (k n : Nat) (p2 p3 : Int32) : Option (Int32 × cN × cE × cF × cP × cO9 × (Nat × Nat)) :=
  (fJ_infer fl d N C E F P k n p2 p3).bind fun z1 =>
  match z1 with
  | (.inl r1, N_1, E_1, F_1, P_1, (k_1, n_1)) =>
  (if ((0 : Int32) < 0 ∨ 1 ≤ ((0 : Int32)).toNatClampNeg) then none else
  some ((0 : Int32), N_1, E_1, F_1, P_1, ((vp_updL O9 ((0 : Int32)).toNatClampNeg r1.toInt64)), (k_1, n_1)))
  | (.inr e1, N_1, E_1, F_1, P_1, (k_1, n_1)) =>
  (if e1 = 0 then
  (some ((1 : Int32), N_1, E_1, F_1, P_1, O9, (k_1, n_1)))
  else
  if e1 = 1 then
  (some ((2 : Int32), N_1, E_1, F_1, P_1, O9, (k_1, n_1)))
  else
  if e1 = 2 then
  (some ((3 : Int32), N_1, E_1, F_1, P_1, O9, (k_1, n_1)))
  else
  none)
set_option maxHeartbeats 4000000 in
set_option maxRecDepth 100000 in
theorem ok_fL_infer {fl d : Nat} {N : cN} {C : cC} {E : cE} {F : cF} {P : cP} {Q : cQ} {T : cT} {G : cG} {U : cU} {H : cH} {B : cB} {O : cO} {J : cJ} {V : cV} {Y : cY} {Z : cZ} {O9 : cO9} {k n : Nat} {p2 p3 : Int32} {rv : Int32} {N' : cN} {E' : cE} {F' : cF} {P' : cP} {O9' : cO9} {k' n' : Nat} (h : fL_infer fl d N C E F P O9 k n p2 p3 = some (rv, N', E', F', P', O9', (k', n'))) (D : Nat) (hD : d + 7 ≤ D) : am_Call D 126 [.ref 0, .int p2, .int p3, .ref 38] (W9 N C E F P Q T G U H B O J V Y Z O9) k n (.inl (some (.int rv)), W9 N' C E' F' P' Q T G U H B O J V Y Z O9', k', n') := by
  unfold fL_infer at h
  obtain ⟨D, rfl⟩ : ∃ D', D = D' + 1 := ⟨D - 1, by omega⟩
  have hD : d + 6 ≤ D := by omega
  refine am_call_run (by decide) (by decide) rfl (Nat.le_of_ble_eq_true rfl) (by decide) (L := [(0, .ref 0), (1, .int p2), (2, .int p3), (3, .ref 38)]) rfl ?_
  refine am_ev_st 5 (f' := (5, [(0, .ref 0), (1, .int p2), (2, .int p3), (3, .ref 38)], [.int p3, .int p2, .ref 0, .int (0 : Int32), .ref 38], (W9 N C E F P Q T G U H B O J V Y Z O9), k, n)) (g := True ∧ True ∧ True ∧ True ∧ True ∧ True) (by with_unfolding_all rfl) ⟨trivial, trivial, trivial, trivial, trivial, trivial⟩ ?_
  replace h := Option.bind_eq_some_iff.mp h
  obtain ⟨⟨r1 | e1, N_1, E_1, F_1, P_1, ⟨k_1, n_1⟩⟩, hc1, h⟩ := h
  · dsimp only at h
    refine am_ev_call (.invokevirtual 7) 59 4 461 [.ref 0, .int p2, .int p3] [.int (0 : Int32), .ref 38] rfl rfl rfl rfl (ok_fJ_infer hc1 D (by omega)) rfl ?_
    by_cases g2 : ((0 : Int32) < 0 ∨ 1 ≤ ((0 : Int32)).toNatClampNeg)
    · rw [if_pos g2] at h; cases h
    rw [if_neg g2] at h
    refine am_ev_st 4 (f' := (26, [(0, .ref 0), (1, .int p2), (2, .int p3), (3, .ref 38)], [.int (0 : Int32)], (W9 N_1 C E_1 F_1 P_1 Q T G U H B O J V Y Z ((vp_updL O9 ((0 : Int32)).toNatClampNeg r1.toInt64))), k_1, n_1)) (g := True ∧ vp_in ((0 : Int32)) 1 ∧ True ∧ True ∧ True) (by with_unfolding_all rfl) ⟨trivial, g2, trivial, trivial, trivial⟩ ?_
    cases h
    exact am_ev_ret 0 0 0 rfl .int rfl rfl rfl
  · dsimp only at h
    by_cases c3 : e1 = 0
    · rw [if_pos c3] at h
      subst c3
      refine am_ev_catch (.invokevirtual 7) 59 4 461 [.ref 0, .int p2, .int p3] [.int (0 : Int32), .ref 38] rfl rfl rfl rfl (ok_fJ_infer hc1 D (by omega)) rfl 13 rfl rfl ?_
      refine am_ev_st 2 (f' := (16, [(4, .retAddr 1), (0, .ref 0), (1, .int p2), (2, .int p3), (3, .ref 38)], [.int (1 : Int32)], (W9 N_1 C E_1 F_1 P_1 Q T G U H B O J V Y Z O9), k_1, n_1)) (g := True ∧ True ∧ True) (by with_unfolding_all rfl) ⟨trivial, trivial, trivial⟩ ?_
      cases h
      exact am_ev_ret 0 0 0 rfl .int rfl rfl rfl
    rw [if_neg c3] at h
    by_cases c4 : e1 = 1
    · rw [if_pos c4] at h
      subst c4
      refine am_ev_catch (.invokevirtual 7) 59 4 461 [.ref 0, .int p2, .int p3] [.int (0 : Int32), .ref 38] rfl rfl rfl rfl (ok_fJ_infer hc1 D (by omega)) rfl 17 rfl rfl ?_
      refine am_ev_st 2 (f' := (20, [(4, .retAddr 1), (0, .ref 0), (1, .int p2), (2, .int p3), (3, .ref 38)], [.int (2 : Int32)], (W9 N_1 C E_1 F_1 P_1 Q T G U H B O J V Y Z O9), k_1, n_1)) (g := True ∧ True ∧ True) (by with_unfolding_all rfl) ⟨trivial, trivial, trivial⟩ ?_
      cases h
      exact am_ev_ret 0 0 0 rfl .int rfl rfl rfl
    rw [if_neg c4] at h
    by_cases c5 : e1 = 2
    · rw [if_pos c5] at h
      subst c5
      refine am_ev_catch (.invokevirtual 7) 59 4 461 [.ref 0, .int p2, .int p3] [.int (0 : Int32), .ref 38] rfl rfl rfl rfl (ok_fJ_infer hc1 D (by omega)) rfl 21 rfl rfl ?_
      refine am_ev_st 2 (f' := (24, [(4, .retAddr 1), (0, .ref 0), (1, .int p2), (2, .int p3), (3, .ref 38)], [.int (3 : Int32)], (W9 N_1 C E_1 F_1 P_1 Q T G U H B O J V Y Z O9), k_1, n_1)) (g := True ∧ True ∧ True) (by with_unfolding_all rfl) ⟨trivial, trivial, trivial⟩ ?_
      cases h
      exact am_ev_ret 0 0 0 rfl .int rfl rfl rfl
    rw [if_neg c5] at h
    cases h
def fJ_reduce (fl : Nat) (d : Nat) (N : cN) (C : cC) (E : cE) (F : cF) (P : cP) (k n : Nat) (p1 p2 : Int32) : Option (((Int32) ⊕ Nat) × cN × cE × cF × cP × (Nat × Nat)) :=
  (fJ_begin N E F k n p1 p1 p2).bind fun z1 =>
  match z1 with
  | (.inl (), N_1, E_1, F_1, (k_1, n_1)) =>
  ((fE_headForm fl d N_1 C E_1 k_1 n_1 p1).bind fun z2 =>
  match z2 with
  | (.inl r2, N_2, E_2, (k_2, n_2)) =>
  ((fM_write_P d N_2 P r2).bind fun z3 =>
  match z3 with
  | (r3, P_3) =>
  some (.inl r3, N_2, E_2, F_1, P_3, (k_2, n_2)))
  | (.inr e2, N_2, E_2, (k_2, n_2)) =>
  (some (.inr e2, N_2, E_2, F_1, P, (k_2, n_2))))
  | (.inr e1, N_1, E_1, F_1, (k_1, n_1)) =>
  (some (.inr e1, N_1, E_1, F_1, P, (k_1, n_1)))
set_option maxHeartbeats 4000000 in
set_option maxRecDepth 100000 in
theorem ok_fJ_reduce {fl d : Nat} {N : cN} {C : cC} {E : cE} {F : cF} {P : cP} {Q : cQ} {T : cT} {G : cG} {U : cU} {H : cH} {B : cB} {O : cO} {J : cJ} {V : cV} {Y : cY} {Z : cZ} {O9 : cO9} {k n : Nat} {p1 p2 : Int32} {rv : (Int32) ⊕ Nat} {N' : cN} {E' : cE} {F' : cF} {P' : cP} {k' n' : Nat} (h : fJ_reduce fl d N C E F P k n p1 p2 = some (rv, N', E', F', P', (k', n'))) (D : Nat) (hD : d + 5 ≤ D) : am_Call D 60 [.ref 0, .int p1, .int p2] (W9 N C E F P Q T G U H B O J V Y Z O9) k n (am_oI rv, W9 N' C E' F' P' Q T G U H B O J V Y Z O9, k', n') := by
  unfold fJ_reduce at h
  obtain ⟨D, rfl⟩ : ∃ D', D = D' + 1 := ⟨D - 1, by omega⟩
  have hD : d + 4 ≤ D := by omega
  refine am_call_run (by decide) (by decide) rfl (Nat.le_of_ble_eq_true rfl) (by decide) (L := [(0, .ref 0), (1, .int p1), (2, .int p2)]) rfl ?_
  refine am_ev_st 4 (f' := (4, [(0, .ref 0), (1, .int p1), (2, .int p2)], [.int p2, .int p1, .int p1, .ref 0], (W9 N C E F P Q T G U H B O J V Y Z O9), k, n)) (g := True ∧ True ∧ True ∧ True ∧ True) (by with_unfolding_all rfl) ⟨trivial, trivial, trivial, trivial, trivial⟩ ?_
  replace h := Option.bind_eq_some_iff.mp h
  obtain ⟨⟨⟨⟩ | e1, N_1, E_1, F_1, ⟨k_1, n_1⟩⟩, hc1, h⟩ := h
  · dsimp only at h
    refine am_ev_call (.invokevirtual 86) 73 6 465 [.ref 0, .int p1, .int p1, .int p2] [] rfl rfl rfl rfl (ok_fJ_begin hc1 D (by omega)) rfl ?_
    refine am_ev_st 7 (f' := (20, [(0, .ref 0), (1, .int p1), (2, .int p2)], [.int p1, .ref 10, .ref 1, .ref 15], (W9 N_1 C E_1 F_1 P Q T G U H B O J V Y Z O9), k_1, n_1)) (g := True ∧ True ∧ True ∧ True ∧ True ∧ True ∧ True ∧ True) (by with_unfolding_all rfl) ⟨trivial, trivial, trivial, trivial, trivial, trivial, trivial, trivial⟩ ?_
    replace h := Option.bind_eq_some_iff.mp h
    obtain ⟨⟨r2 | e2, N_2, E_2, ⟨k_2, n_2⟩⟩, hc2, h⟩ := h
    · dsimp only at h
      refine am_ev_call (.invokevirtual 97) 48 2 625 [.ref 10, .int p1] [.ref 1, .ref 15] rfl rfl rfl rfl (ok_fE_headForm hc2 D (by omega)) rfl ?_
      replace h := Option.bind_eq_some_iff.mp h
      obtain ⟨⟨r3, P_3⟩, hc3, h⟩ := h
      try dsimp only at h
      refine am_ev_call (.invokevirtual 93) 21 4 301 [.ref 15, .ref 1, .int r2] [] rfl rfl rfl rfl (ok_fM_write_P hc3 D (by omega)) rfl ?_
      cases h
      exact am_ev_ret 0 0 0 rfl .int rfl rfl rfl
    · dsimp only at h
      cases h
      exact am_ev_callx (.invokevirtual 97) 48 2 625 [.ref 10, .int p1] [.ref 1, .ref 15] rfl rfl rfl rfl (ok_fE_headForm hc2 D (by omega)) rfl rfl rfl
  · dsimp only at h
    cases h
    exact am_ev_callx (.invokevirtual 86) 73 6 465 [.ref 0, .int p1, .int p1, .int p2] [] rfl rfl rfl rfl (ok_fJ_begin hc1 D (by omega)) rfl rfl rfl
def fL_reduce (fl : Nat) (d : Nat) (N : cN) (C : cC) (E : cE) (F : cF) (P : cP) (O9 : cO9) (k n : Nat) (p2 p3 : Int32) : Option (Int32 × cN × cE × cF × cP × cO9 × (Nat × Nat)) :=
  (fJ_reduce fl d N C E F P k n p2 p3).bind fun z1 =>
  match z1 with
  | (.inl r1, N_1, E_1, F_1, P_1, (k_1, n_1)) =>
  (if ((0 : Int32) < 0 ∨ 1 ≤ ((0 : Int32)).toNatClampNeg) then none else
  some ((0 : Int32), N_1, E_1, F_1, P_1, ((vp_updL O9 ((0 : Int32)).toNatClampNeg r1.toInt64)), (k_1, n_1)))
  | (.inr e1, N_1, E_1, F_1, P_1, (k_1, n_1)) =>
  (if e1 = 0 then
  (some ((1 : Int32), N_1, E_1, F_1, P_1, O9, (k_1, n_1)))
  else
  if e1 = 2 then
  (some ((2 : Int32), N_1, E_1, F_1, P_1, O9, (k_1, n_1)))
  else
  none)
set_option maxHeartbeats 4000000 in
set_option maxRecDepth 100000 in
theorem ok_fL_reduce {fl d : Nat} {N : cN} {C : cC} {E : cE} {F : cF} {P : cP} {Q : cQ} {T : cT} {G : cG} {U : cU} {H : cH} {B : cB} {O : cO} {J : cJ} {V : cV} {Y : cY} {Z : cZ} {O9 : cO9} {k n : Nat} {p2 p3 : Int32} {rv : Int32} {N' : cN} {E' : cE} {F' : cF} {P' : cP} {O9' : cO9} {k' n' : Nat} (h : fL_reduce fl d N C E F P O9 k n p2 p3 = some (rv, N', E', F', P', O9', (k', n'))) (D : Nat) (hD : d + 6 ≤ D) : am_Call D 127 [.ref 0, .int p2, .int p3, .ref 38] (W9 N C E F P Q T G U H B O J V Y Z O9) k n (.inl (some (.int rv)), W9 N' C E' F' P' Q T G U H B O J V Y Z O9', k', n') := by
  unfold fL_reduce at h
  obtain ⟨D, rfl⟩ : ∃ D', D = D' + 1 := ⟨D - 1, by omega⟩
  have hD : d + 5 ≤ D := by omega
  refine am_call_run (by decide) (by decide) rfl (Nat.le_of_ble_eq_true rfl) (by decide) (L := [(0, .ref 0), (1, .int p2), (2, .int p3), (3, .ref 38)]) rfl ?_
  refine am_ev_st 5 (f' := (5, [(0, .ref 0), (1, .int p2), (2, .int p3), (3, .ref 38)], [.int p3, .int p2, .ref 0, .int (0 : Int32), .ref 38], (W9 N C E F P Q T G U H B O J V Y Z O9), k, n)) (g := True ∧ True ∧ True ∧ True ∧ True ∧ True) (by with_unfolding_all rfl) ⟨trivial, trivial, trivial, trivial, trivial, trivial⟩ ?_
  replace h := Option.bind_eq_some_iff.mp h
  obtain ⟨⟨r1 | e1, N_1, E_1, F_1, P_1, ⟨k_1, n_1⟩⟩, hc1, h⟩ := h
  · dsimp only at h
    refine am_ev_call (.invokevirtual 19) 60 4 621 [.ref 0, .int p2, .int p3] [.int (0 : Int32), .ref 38] rfl rfl rfl rfl (ok_fJ_reduce hc1 D (by omega)) rfl ?_
    by_cases g2 : ((0 : Int32) < 0 ∨ 1 ≤ ((0 : Int32)).toNatClampNeg)
    · rw [if_pos g2] at h; cases h
    rw [if_neg g2] at h
    refine am_ev_st 4 (f' := (22, [(0, .ref 0), (1, .int p2), (2, .int p3), (3, .ref 38)], [.int (0 : Int32)], (W9 N_1 C E_1 F_1 P_1 Q T G U H B O J V Y Z ((vp_updL O9 ((0 : Int32)).toNatClampNeg r1.toInt64))), k_1, n_1)) (g := True ∧ vp_in ((0 : Int32)) 1 ∧ True ∧ True ∧ True) (by with_unfolding_all rfl) ⟨trivial, g2, trivial, trivial, trivial⟩ ?_
    cases h
    exact am_ev_ret 0 0 0 rfl .int rfl rfl rfl
  · dsimp only at h
    by_cases c3 : e1 = 0
    · rw [if_pos c3] at h
      subst c3
      refine am_ev_catch (.invokevirtual 19) 60 4 621 [.ref 0, .int p2, .int p3] [.int (0 : Int32), .ref 38] rfl rfl rfl rfl (ok_fJ_reduce hc1 D (by omega)) rfl 13 rfl rfl ?_
      refine am_ev_st 2 (f' := (16, [(4, .retAddr 1), (0, .ref 0), (1, .int p2), (2, .int p3), (3, .ref 38)], [.int (1 : Int32)], (W9 N_1 C E_1 F_1 P_1 Q T G U H B O J V Y Z O9), k_1, n_1)) (g := True ∧ True ∧ True) (by with_unfolding_all rfl) ⟨trivial, trivial, trivial⟩ ?_
      cases h
      exact am_ev_ret 0 0 0 rfl .int rfl rfl rfl
    rw [if_neg c3] at h
    by_cases c4 : e1 = 2
    · rw [if_pos c4] at h
      subst c4
      refine am_ev_catch (.invokevirtual 19) 60 4 621 [.ref 0, .int p2, .int p3] [.int (0 : Int32), .ref 38] rfl rfl rfl rfl (ok_fJ_reduce hc1 D (by omega)) rfl 17 rfl rfl ?_
      refine am_ev_st 2 (f' := (20, [(4, .retAddr 1), (0, .ref 0), (1, .int p2), (2, .int p3), (3, .ref 38)], [.int (2 : Int32)], (W9 N_1 C E_1 F_1 P_1 Q T G U H B O J V Y Z O9), k_1, n_1)) (g := True ∧ True ∧ True) (by with_unfolding_all rfl) ⟨trivial, trivial, trivial⟩ ?_
      cases h
      exact am_ev_ret 0 0 0 rfl .int rfl rfl rfl
    rw [if_neg c4] at h
    cases h
def fJ_same (fl : Nat) (d : Nat) (N : cN) (C : cC) (E : cE) (F : cF) (k n : Nat) (p1 p2 p3 : Int32) : Option (((Bool) ⊕ Nat) × cN × cE × cF × (Nat × Nat)) :=
  (fJ_begin N E F k n p1 p2 p3).bind fun z1 =>
  match z1 with
  | (.inl (), N_1, E_1, F_1, (k_1, n_1)) =>
  ((fE_areSame fl d N_1 C E_1 k_1 n_1 p1 p2).bind fun z2 =>
  match z2 with
  | (.inl r2, N_2, E_2, (k_2, n_2)) =>
  (some (.inl r2, N_2, E_2, F_1, (k_2, n_2)))
  | (.inr e2, N_2, E_2, (k_2, n_2)) =>
  (some (.inr e2, N_2, E_2, F_1, (k_2, n_2))))
  | (.inr e1, N_1, E_1, F_1, (k_1, n_1)) =>
  (some (.inr e1, N_1, E_1, F_1, (k_1, n_1)))
set_option maxHeartbeats 4000000 in
set_option maxRecDepth 100000 in
theorem ok_fJ_same {fl d : Nat} {N : cN} {C : cC} {E : cE} {F : cF} {P : cP} {Q : cQ} {T : cT} {G : cG} {U : cU} {H : cH} {B : cB} {O : cO} {J : cJ} {V : cV} {Y : cY} {Z : cZ} {O9 : cO9} {k n : Nat} {p1 p2 p3 : Int32} {rv : (Bool) ⊕ Nat} {N' : cN} {E' : cE} {F' : cF} {k' n' : Nat} (h : fJ_same fl d N C E F k n p1 p2 p3 = some (rv, N', E', F', (k', n'))) (D : Nat) (hD : d + 6 ≤ D) : am_Call D 61 [.ref 0, .int p1, .int p2, .int p3] (W9 N C E F P Q T G U H B O J V Y Z O9) k n (am_oB rv, W9 N' C E' F' P Q T G U H B O J V Y Z O9, k', n') := by
  unfold fJ_same at h
  obtain ⟨D, rfl⟩ : ∃ D', D = D' + 1 := ⟨D - 1, by omega⟩
  have hD : d + 5 ≤ D := by omega
  refine am_call_run (by decide) (by decide) rfl (Nat.le_of_ble_eq_true rfl) (by decide) (L := [(0, .ref 0), (1, .int p1), (2, .int p2), (3, .int p3)]) rfl ?_
  refine am_ev_st 4 (f' := (4, [(0, .ref 0), (1, .int p1), (2, .int p2), (3, .int p3)], [.int p3, .int p2, .int p1, .ref 0], (W9 N C E F P Q T G U H B O J V Y Z O9), k, n)) (g := True ∧ True ∧ True ∧ True ∧ True) (by with_unfolding_all rfl) ⟨trivial, trivial, trivial, trivial, trivial⟩ ?_
  replace h := Option.bind_eq_some_iff.mp h
  obtain ⟨⟨⟨⟩ | e1, N_1, E_1, F_1, ⟨k_1, n_1⟩⟩, hc1, h⟩ := h
  · dsimp only at h
    refine am_ev_call (.invokevirtual 86) 73 6 465 [.ref 0, .int p1, .int p2, .int p3] [] rfl rfl rfl rfl (ok_fJ_begin hc1 D (by omega)) rfl ?_
    refine am_ev_st 4 (f' := (13, [(0, .ref 0), (1, .int p1), (2, .int p2), (3, .int p3)], [.int p2, .int p1, .ref 10], (W9 N_1 C E_1 F_1 P Q T G U H B O J V Y Z O9), k_1, n_1)) (g := True ∧ True ∧ True ∧ True ∧ True) (by with_unfolding_all rfl) ⟨trivial, trivial, trivial, trivial, trivial⟩ ?_
    replace h := Option.bind_eq_some_iff.mp h
    obtain ⟨⟨r2 | e2, N_2, E_2, ⟨k_2, n_2⟩⟩, hc2, h⟩ := h
    · dsimp only at h
      refine am_ev_call (.invokevirtual 100) 50 4 633 [.ref 10, .int p1, .int p2] [] rfl rfl rfl rfl (ok_fE_areSame hc2 D (by omega)) rfl ?_
      cases h
      exact am_ev_ret 0 0 0 rfl .boolean rfl (am_bz_nar _) rfl
    · dsimp only at h
      cases h
      exact am_ev_callx (.invokevirtual 100) 50 4 633 [.ref 10, .int p1, .int p2] [] rfl rfl rfl rfl (ok_fE_areSame hc2 D (by omega)) rfl rfl rfl
  · dsimp only at h
    cases h
    exact am_ev_callx (.invokevirtual 86) 73 6 465 [.ref 0, .int p1, .int p2, .int p3] [] rfl rfl rfl rfl (ok_fJ_begin hc1 D (by omega)) rfl rfl rfl
def fL_same (fl : Nat) (d : Nat) (N : cN) (C : cC) (E : cE) (F : cF) (O9 : cO9) (k n : Nat) (p2 p3 p4 : Int32) : Option (Int32 × cN × cE × cF × cO9 × (Nat × Nat)) :=
  (fJ_same fl d N C E F k n p2 p3 p4).bind fun z1 =>
  match z1 with
  | (.inl r1, N_1, E_1, F_1, (k_1, n_1)) =>
  (if (am_bz r1) = 0 then
  (if ((0 : Int32) < 0 ∨ 1 ≤ ((0 : Int32)).toNatClampNeg) then none else
  some ((0 : Int32), N_1, E_1, F_1, ((vp_updL O9 ((0 : Int32)).toNatClampNeg 0)), (k_1, n_1)))
  else
  if ((0 : Int32) < 0 ∨ 1 ≤ ((0 : Int32)).toNatClampNeg) then none else
  some ((0 : Int32), N_1, E_1, F_1, ((vp_updL O9 ((0 : Int32)).toNatClampNeg 1)), (k_1, n_1)))
  | (.inr e1, N_1, E_1, F_1, (k_1, n_1)) =>
  (if e1 = 0 then
  (some ((1 : Int32), N_1, E_1, F_1, O9, (k_1, n_1)))
  else
  if e1 = 2 then
  (some ((2 : Int32), N_1, E_1, F_1, O9, (k_1, n_1)))
  else
  none)
set_option maxHeartbeats 4000000 in
set_option maxRecDepth 100000 in
theorem ok_fL_same {fl d : Nat} {N : cN} {C : cC} {E : cE} {F : cF} {P : cP} {Q : cQ} {T : cT} {G : cG} {U : cU} {H : cH} {B : cB} {O : cO} {J : cJ} {V : cV} {Y : cY} {Z : cZ} {O9 : cO9} {k n : Nat} {p2 p3 p4 : Int32} {rv : Int32} {N' : cN} {E' : cE} {F' : cF} {O9' : cO9} {k' n' : Nat} (h : fL_same fl d N C E F O9 k n p2 p3 p4 = some (rv, N', E', F', O9', (k', n'))) (D : Nat) (hD : d + 7 ≤ D) : am_Call D 128 [.ref 0, .int p2, .int p3, .int p4, .ref 38] (W9 N C E F P Q T G U H B O J V Y Z O9) k n (.inl (some (.int rv)), W9 N' C E' F' P Q T G U H B O J V Y Z O9', k', n') := by
  unfold fL_same at h
  obtain ⟨D, rfl⟩ : ∃ D', D = D' + 1 := ⟨D - 1, by omega⟩
  have hD : d + 6 ≤ D := by omega
  refine am_call_run (by decide) (by decide) rfl (Nat.le_of_ble_eq_true rfl) (by decide) (L := [(0, .ref 0), (1, .int p2), (2, .int p3), (3, .int p4), (4, .ref 38)]) rfl ?_
  refine am_ev_st 6 (f' := (7, [(0, .ref 0), (1, .int p2), (2, .int p3), (3, .int p4), (4, .ref 38)], [.int p4, .int p3, .int p2, .ref 0, .int (0 : Int32), .ref 38], (W9 N C E F P Q T G U H B O J V Y Z O9), k, n)) (g := True ∧ True ∧ True ∧ True ∧ True ∧ True ∧ True) (by with_unfolding_all rfl) ⟨trivial, trivial, trivial, trivial, trivial, trivial, trivial⟩ ?_
  replace h := Option.bind_eq_some_iff.mp h
  obtain ⟨⟨r1 | e1, N_1, E_1, F_1, ⟨k_1, n_1⟩⟩, hc1, h⟩ := h
  · dsimp only at h
    refine am_ev_call (.invokevirtual 22) 61 6 629 [.ref 0, .int p2, .int p3, .int p4] [.int (0 : Int32), .ref 38] rfl rfl rfl rfl (ok_fJ_same hc1 D (by omega)) rfl ?_
    refine am_ev_st 1 (f' := am_br ((am_bz r1) = 0) 17 10 [(0, .ref 0), (1, .int p2), (2, .int p3), (3, .int p4), (4, .ref 38)] [.int (0 : Int32), .ref 38] (W9 N_1 C E_1 F_1 P Q T G U H B O J V Y Z O9) k_1 n_1) (g := True ∧ True) (by with_unfolding_all rfl) ⟨trivial, trivial⟩ ?_
    by_cases c2 : (am_bz r1) = 0
    · rw [if_pos c2] at h
      refine am_ev_pos c2 ?_
      by_cases g3 : ((0 : Int32) < 0 ∨ 1 ≤ ((0 : Int32)).toNatClampNeg)
      · rw [if_pos g3] at h; cases h
      rw [if_neg g3] at h
      refine am_ev_st 4 (f' := (31, [(0, .ref 0), (1, .int p2), (2, .int p3), (3, .int p4), (4, .ref 38)], [.int (0 : Int32)], (W9 N_1 C E_1 F_1 P Q T G U H B O J V Y Z ((vp_updL O9 ((0 : Int32)).toNatClampNeg 0))), k_1, n_1)) (g := True ∧ vp_in ((0 : Int32)) 1 ∧ True ∧ True ∧ True) (by with_unfolding_all rfl) ⟨trivial, g3, trivial, trivial, trivial⟩ ?_
      cases h
      exact am_ev_ret 0 0 0 rfl .int rfl rfl rfl
    · rw [if_neg c2] at h
      refine am_ev_neg c2 ?_
      by_cases g4 : ((0 : Int32) < 0 ∨ 1 ≤ ((0 : Int32)).toNatClampNeg)
      · rw [if_pos g4] at h; cases h
      rw [if_neg g4] at h
      refine am_ev_st 5 (f' := (31, [(0, .ref 0), (1, .int p2), (2, .int p3), (3, .int p4), (4, .ref 38)], [.int (0 : Int32)], (W9 N_1 C E_1 F_1 P Q T G U H B O J V Y Z ((vp_updL O9 ((0 : Int32)).toNatClampNeg 1))), k_1, n_1)) (g := True ∧ True ∧ vp_in ((0 : Int32)) 1 ∧ True ∧ True ∧ True) (by with_unfolding_all rfl) ⟨trivial, trivial, g4, trivial, trivial, trivial⟩ ?_
      cases h
      exact am_ev_ret 0 0 0 rfl .int rfl rfl rfl
  · dsimp only at h
    by_cases c5 : e1 = 0
    · rw [if_pos c5] at h
      subst c5
      refine am_ev_catch (.invokevirtual 22) 61 6 629 [.ref 0, .int p2, .int p3, .int p4] [.int (0 : Int32), .ref 38] rfl rfl rfl rfl (ok_fJ_same hc1 D (by omega)) rfl 22 rfl rfl ?_
      refine am_ev_st 2 (f' := (25, [(5, .retAddr 1), (0, .ref 0), (1, .int p2), (2, .int p3), (3, .int p4), (4, .ref 38)], [.int (1 : Int32)], (W9 N_1 C E_1 F_1 P Q T G U H B O J V Y Z O9), k_1, n_1)) (g := True ∧ True ∧ True) (by with_unfolding_all rfl) ⟨trivial, trivial, trivial⟩ ?_
      cases h
      exact am_ev_ret 0 0 0 rfl .int rfl rfl rfl
    rw [if_neg c5] at h
    by_cases c6 : e1 = 2
    · rw [if_pos c6] at h
      subst c6
      refine am_ev_catch (.invokevirtual 22) 61 6 629 [.ref 0, .int p2, .int p3, .int p4] [.int (0 : Int32), .ref 38] rfl rfl rfl rfl (ok_fJ_same hc1 D (by omega)) rfl 26 rfl rfl ?_
      refine am_ev_st 2 (f' := (29, [(5, .retAddr 1), (0, .ref 0), (1, .int p2), (2, .int p3), (3, .int p4), (4, .ref 38)], [.int (2 : Int32)], (W9 N_1 C E_1 F_1 P Q T G U H B O J V Y Z O9), k_1, n_1)) (g := True ∧ True ∧ True) (by with_unfolding_all rfl) ⟨trivial, trivial, trivial⟩ ?_
      cases h
      exact am_ev_ret 0 0 0 rfl .int rfl rfl rfl
    rw [if_neg c6] at h
    cases h
def fJ_check (fl : Nat) (d : Nat) (N : cN) (C : cC) (E : cE) (F : cF) (k n : Nat) (p1 p2 p3 : Int32) : Option (((Bool) ⊕ Nat) × cN × cE × cF × (Nat × Nat)) :=
  (fJ_begin N E F k n p1 p2 p3).bind fun z1 =>
  match z1 with
  | (.inl (), N_1, E_1, F_1, (k_1, n_1)) =>
  ((fF_typeFound fl d N_1 C E_1 F_1 k_1 n_1 p2).bind fun z2 =>
  match z2 with
  | (.inl r2, N_2, E_2, F_2, (k_2, n_2)) =>
  ((fF_levelOf fl d N_2 C E_2 k_2 n_2 r2).bind fun z3 =>
  match z3 with
  | (.inl r3, N_3, E_3, (k_3, n_3)) =>
  ((fF_typeFound fl d N_3 C E_3 F_2 k_3 n_3 p1).bind fun z4 =>
  match z4 with
  | (.inl r4, N_4, E_4, F_4, (k_4, n_4)) =>
  ((fE_areSame fl d N_4 C E_4 k_4 n_4 r4 p2).bind fun z5 =>
  match z5 with
  | (.inl r5, N_5, E_5, (k_5, n_5)) =>
  (some (.inl r5, N_5, E_5, F_4, (k_5, n_5)))
  | (.inr e5, N_5, E_5, (k_5, n_5)) =>
  (some (.inr e5, N_5, E_5, F_4, (k_5, n_5))))
  | (.inr e4, N_4, E_4, F_4, (k_4, n_4)) =>
  (some (.inr e4, N_4, E_4, F_4, (k_4, n_4))))
  | (.inr e3, N_3, E_3, (k_3, n_3)) =>
  (some (.inr e3, N_3, E_3, F_2, (k_3, n_3))))
  | (.inr e2, N_2, E_2, F_2, (k_2, n_2)) =>
  (some (.inr e2, N_2, E_2, F_2, (k_2, n_2))))
  | (.inr e1, N_1, E_1, F_1, (k_1, n_1)) =>
  (some (.inr e1, N_1, E_1, F_1, (k_1, n_1)))
set_option maxHeartbeats 4000000 in
set_option maxRecDepth 100000 in
theorem ok_fJ_check {fl d : Nat} {N : cN} {C : cC} {E : cE} {F : cF} {P : cP} {Q : cQ} {T : cT} {G : cG} {U : cU} {H : cH} {B : cB} {O : cO} {J : cJ} {V : cV} {Y : cY} {Z : cZ} {O9 : cO9} {k n : Nat} {p1 p2 p3 : Int32} {rv : (Bool) ⊕ Nat} {N' : cN} {E' : cE} {F' : cF} {k' n' : Nat} (h : fJ_check fl d N C E F k n p1 p2 p3 = some (rv, N', E', F', (k', n'))) (D : Nat) (hD : d + 6 ≤ D) : am_Call D 62 [.ref 0, .int p1, .int p2, .int p3] (W9 N C E F P Q T G U H B O J V Y Z O9) k n (am_oB rv, W9 N' C E' F' P Q T G U H B O J V Y Z O9, k', n') := by
  unfold fJ_check at h
  obtain ⟨D, rfl⟩ : ∃ D', D = D' + 1 := ⟨D - 1, by omega⟩
  have hD : d + 5 ≤ D := by omega
  refine am_call_run (by decide) (by decide) rfl (Nat.le_of_ble_eq_true rfl) (by decide) (L := [(0, .ref 0), (1, .int p1), (2, .int p2), (3, .int p3)]) rfl ?_
  refine am_ev_st 4 (f' := (4, [(0, .ref 0), (1, .int p1), (2, .int p2), (3, .int p3)], [.int p3, .int p2, .int p1, .ref 0], (W9 N C E F P Q T G U H B O J V Y Z O9), k, n)) (g := True ∧ True ∧ True ∧ True ∧ True) (by with_unfolding_all rfl) ⟨trivial, trivial, trivial, trivial, trivial⟩ ?_
  replace h := Option.bind_eq_some_iff.mp h
  obtain ⟨⟨⟨⟩ | e1, N_1, E_1, F_1, ⟨k_1, n_1⟩⟩, hc1, h⟩ := h
  · dsimp only at h
    refine am_ev_call (.invokevirtual 86) 73 6 465 [.ref 0, .int p1, .int p2, .int p3] [] rfl rfl rfl rfl (ok_fJ_begin hc1 D (by omega)) rfl ?_
    refine am_ev_st 5 (f' := (16, [(0, .ref 0), (1, .int p1), (2, .int p2), (3, .int p3)], [.int p2, .ref 13, .ref 13], (W9 N_1 C E_1 F_1 P Q T G U H B O J V Y Z O9), k_1, n_1)) (g := True ∧ True ∧ True ∧ True ∧ True ∧ True) (by with_unfolding_all rfl) ⟨trivial, trivial, trivial, trivial, trivial, trivial⟩ ?_
    replace h := Option.bind_eq_some_iff.mp h
    obtain ⟨⟨r2 | e2, N_2, E_2, F_2, ⟨k_2, n_2⟩⟩, hc2, h⟩ := h
    · dsimp only at h
      refine am_ev_call (.invokevirtual 90) 9 2 497 [.ref 13, .int p2] [.ref 13] rfl rfl rfl rfl (ok_fF_typeFound hc2 D (by omega)) rfl ?_
      replace h := Option.bind_eq_some_iff.mp h
      obtain ⟨⟨r3 | e3, N_3, E_3, ⟨k_3, n_3⟩⟩, hc3, h⟩ := h
      · dsimp only at h
        refine am_ev_call (.invokevirtual 104) 10 2 641 [.ref 13, .int r2] [] rfl rfl rfl rfl (ok_fF_levelOf hc3 D (by omega)) rfl ?_
        refine am_ev_st 6 (f' := (32, [(0, .ref 0), (1, .int p1), (2, .int p2), (3, .int p3)], [.int p1, .ref 13, .ref 10], (W9 N_3 C E_3 F_2 P Q T G U H B O J V Y Z O9), k_3, n_3)) (g := True ∧ True ∧ True ∧ True ∧ True ∧ True ∧ True) (by with_unfolding_all rfl) ⟨trivial, trivial, trivial, trivial, trivial, trivial, trivial⟩ ?_
        replace h := Option.bind_eq_some_iff.mp h
        obtain ⟨⟨r4 | e4, N_4, E_4, F_4, ⟨k_4, n_4⟩⟩, hc4, h⟩ := h
        · dsimp only at h
          refine am_ev_call (.invokevirtual 90) 9 2 497 [.ref 13, .int p1] [.ref 10] rfl rfl rfl rfl (ok_fF_typeFound hc4 D (by omega)) rfl ?_
          refine am_ev_st 1 (f' := (36, [(0, .ref 0), (1, .int p1), (2, .int p2), (3, .int p3)], [.int p2, .int r4, .ref 10], (W9 N_4 C E_4 F_4 P Q T G U H B O J V Y Z O9), k_4, n_4)) (g := True ∧ True) (by with_unfolding_all rfl) ⟨trivial, trivial⟩ ?_
          replace h := Option.bind_eq_some_iff.mp h
          obtain ⟨⟨r5 | e5, N_5, E_5, ⟨k_5, n_5⟩⟩, hc5, h⟩ := h
          · dsimp only at h
            refine am_ev_call (.invokevirtual 100) 50 4 633 [.ref 10, .int r4, .int p2] [] rfl rfl rfl rfl (ok_fE_areSame hc5 D (by omega)) rfl ?_
            cases h
            exact am_ev_ret 0 0 0 rfl .boolean rfl (am_bz_nar _) rfl
          · dsimp only at h
            cases h
            exact am_ev_callx (.invokevirtual 100) 50 4 633 [.ref 10, .int r4, .int p2] [] rfl rfl rfl rfl (ok_fE_areSame hc5 D (by omega)) rfl rfl rfl
        · dsimp only at h
          cases h
          exact am_ev_callx (.invokevirtual 90) 9 2 497 [.ref 13, .int p1] [.ref 10] rfl rfl rfl rfl (ok_fF_typeFound hc4 D (by omega)) rfl rfl rfl
      · dsimp only at h
        cases h
        exact am_ev_callx (.invokevirtual 104) 10 2 641 [.ref 13, .int r2] [] rfl rfl rfl rfl (ok_fF_levelOf hc3 D (by omega)) rfl rfl rfl
    · dsimp only at h
      cases h
      exact am_ev_callx (.invokevirtual 90) 9 2 497 [.ref 13, .int p2] [.ref 13] rfl rfl rfl rfl (ok_fF_typeFound hc2 D (by omega)) rfl rfl rfl
  · dsimp only at h
    cases h
    exact am_ev_callx (.invokevirtual 86) 73 6 465 [.ref 0, .int p1, .int p2, .int p3] [] rfl rfl rfl rfl (ok_fJ_begin hc1 D (by omega)) rfl rfl rfl
def fL_check (fl : Nat) (d : Nat) (N : cN) (C : cC) (E : cE) (F : cF) (O9 : cO9) (k n : Nat) (p2 p3 p4 : Int32) : Option (Int32 × cN × cE × cF × cO9 × (Nat × Nat)) :=
  (fJ_check fl d N C E F k n p2 p3 p4).bind fun z1 =>
  match z1 with
  | (.inl r1, N_1, E_1, F_1, (k_1, n_1)) =>
  (if (am_bz r1) = 0 then
  (if ((0 : Int32) < 0 ∨ 1 ≤ ((0 : Int32)).toNatClampNeg) then none else
  some ((0 : Int32), N_1, E_1, F_1, ((vp_updL O9 ((0 : Int32)).toNatClampNeg 0)), (k_1, n_1)))
  else
  if ((0 : Int32) < 0 ∨ 1 ≤ ((0 : Int32)).toNatClampNeg) then none else
  some ((0 : Int32), N_1, E_1, F_1, ((vp_updL O9 ((0 : Int32)).toNatClampNeg 1)), (k_1, n_1)))
  | (.inr e1, N_1, E_1, F_1, (k_1, n_1)) =>
  (if e1 = 0 then
  (some ((1 : Int32), N_1, E_1, F_1, O9, (k_1, n_1)))
  else
  if e1 = 1 then
  (some ((2 : Int32), N_1, E_1, F_1, O9, (k_1, n_1)))
  else
  if e1 = 2 then
  (some ((3 : Int32), N_1, E_1, F_1, O9, (k_1, n_1)))
  else
  none)
set_option maxHeartbeats 4000000 in
set_option maxRecDepth 100000 in
theorem ok_fL_check {fl d : Nat} {N : cN} {C : cC} {E : cE} {F : cF} {P : cP} {Q : cQ} {T : cT} {G : cG} {U : cU} {H : cH} {B : cB} {O : cO} {J : cJ} {V : cV} {Y : cY} {Z : cZ} {O9 : cO9} {k n : Nat} {p2 p3 p4 : Int32} {rv : Int32} {N' : cN} {E' : cE} {F' : cF} {O9' : cO9} {k' n' : Nat} (h : fL_check fl d N C E F O9 k n p2 p3 p4 = some (rv, N', E', F', O9', (k', n'))) (D : Nat) (hD : d + 7 ≤ D) : am_Call D 129 [.ref 0, .int p2, .int p3, .int p4, .ref 38] (W9 N C E F P Q T G U H B O J V Y Z O9) k n (.inl (some (.int rv)), W9 N' C E' F' P Q T G U H B O J V Y Z O9', k', n') := by
  unfold fL_check at h
  obtain ⟨D, rfl⟩ : ∃ D', D = D' + 1 := ⟨D - 1, by omega⟩
  have hD : d + 6 ≤ D := by omega
  refine am_call_run (by decide) (by decide) rfl (Nat.le_of_ble_eq_true rfl) (by decide) (L := [(0, .ref 0), (1, .int p2), (2, .int p3), (3, .int p4), (4, .ref 38)]) rfl ?_
  refine am_ev_st 6 (f' := (7, [(0, .ref 0), (1, .int p2), (2, .int p3), (3, .int p4), (4, .ref 38)], [.int p4, .int p3, .int p2, .ref 0, .int (0 : Int32), .ref 38], (W9 N C E F P Q T G U H B O J V Y Z O9), k, n)) (g := True ∧ True ∧ True ∧ True ∧ True ∧ True ∧ True) (by with_unfolding_all rfl) ⟨trivial, trivial, trivial, trivial, trivial, trivial, trivial⟩ ?_
  replace h := Option.bind_eq_some_iff.mp h
  obtain ⟨⟨r1 | e1, N_1, E_1, F_1, ⟨k_1, n_1⟩⟩, hc1, h⟩ := h
  · dsimp only at h
    refine am_ev_call (.invokevirtual 26) 62 6 637 [.ref 0, .int p2, .int p3, .int p4] [.int (0 : Int32), .ref 38] rfl rfl rfl rfl (ok_fJ_check hc1 D (by omega)) rfl ?_
    refine am_ev_st 1 (f' := am_br ((am_bz r1) = 0) 17 10 [(0, .ref 0), (1, .int p2), (2, .int p3), (3, .int p4), (4, .ref 38)] [.int (0 : Int32), .ref 38] (W9 N_1 C E_1 F_1 P Q T G U H B O J V Y Z O9) k_1 n_1) (g := True ∧ True) (by with_unfolding_all rfl) ⟨trivial, trivial⟩ ?_
    by_cases c2 : (am_bz r1) = 0
    · rw [if_pos c2] at h
      refine am_ev_pos c2 ?_
      by_cases g3 : ((0 : Int32) < 0 ∨ 1 ≤ ((0 : Int32)).toNatClampNeg)
      · rw [if_pos g3] at h; cases h
      rw [if_neg g3] at h
      refine am_ev_st 4 (f' := (35, [(0, .ref 0), (1, .int p2), (2, .int p3), (3, .int p4), (4, .ref 38)], [.int (0 : Int32)], (W9 N_1 C E_1 F_1 P Q T G U H B O J V Y Z ((vp_updL O9 ((0 : Int32)).toNatClampNeg 0))), k_1, n_1)) (g := True ∧ vp_in ((0 : Int32)) 1 ∧ True ∧ True ∧ True) (by with_unfolding_all rfl) ⟨trivial, g3, trivial, trivial, trivial⟩ ?_
      cases h
      exact am_ev_ret 0 0 0 rfl .int rfl rfl rfl
    · rw [if_neg c2] at h
      refine am_ev_neg c2 ?_
      by_cases g4 : ((0 : Int32) < 0 ∨ 1 ≤ ((0 : Int32)).toNatClampNeg)
      · rw [if_pos g4] at h; cases h
      rw [if_neg g4] at h
      refine am_ev_st 5 (f' := (35, [(0, .ref 0), (1, .int p2), (2, .int p3), (3, .int p4), (4, .ref 38)], [.int (0 : Int32)], (W9 N_1 C E_1 F_1 P Q T G U H B O J V Y Z ((vp_updL O9 ((0 : Int32)).toNatClampNeg 1))), k_1, n_1)) (g := True ∧ True ∧ vp_in ((0 : Int32)) 1 ∧ True ∧ True ∧ True) (by with_unfolding_all rfl) ⟨trivial, trivial, g4, trivial, trivial, trivial⟩ ?_
      cases h
      exact am_ev_ret 0 0 0 rfl .int rfl rfl rfl
  · dsimp only at h
    by_cases c5 : e1 = 0
    · rw [if_pos c5] at h
      subst c5
      refine am_ev_catch (.invokevirtual 26) 62 6 637 [.ref 0, .int p2, .int p3, .int p4] [.int (0 : Int32), .ref 38] rfl rfl rfl rfl (ok_fJ_check hc1 D (by omega)) rfl 22 rfl rfl ?_
      refine am_ev_st 2 (f' := (25, [(5, .retAddr 1), (0, .ref 0), (1, .int p2), (2, .int p3), (3, .int p4), (4, .ref 38)], [.int (1 : Int32)], (W9 N_1 C E_1 F_1 P Q T G U H B O J V Y Z O9), k_1, n_1)) (g := True ∧ True ∧ True) (by with_unfolding_all rfl) ⟨trivial, trivial, trivial⟩ ?_
      cases h
      exact am_ev_ret 0 0 0 rfl .int rfl rfl rfl
    rw [if_neg c5] at h
    by_cases c6 : e1 = 1
    · rw [if_pos c6] at h
      subst c6
      refine am_ev_catch (.invokevirtual 26) 62 6 637 [.ref 0, .int p2, .int p3, .int p4] [.int (0 : Int32), .ref 38] rfl rfl rfl rfl (ok_fJ_check hc1 D (by omega)) rfl 26 rfl rfl ?_
      refine am_ev_st 2 (f' := (29, [(5, .retAddr 1), (0, .ref 0), (1, .int p2), (2, .int p3), (3, .int p4), (4, .ref 38)], [.int (2 : Int32)], (W9 N_1 C E_1 F_1 P Q T G U H B O J V Y Z O9), k_1, n_1)) (g := True ∧ True ∧ True) (by with_unfolding_all rfl) ⟨trivial, trivial, trivial⟩ ?_
      cases h
      exact am_ev_ret 0 0 0 rfl .int rfl rfl rfl
    rw [if_neg c6] at h
    by_cases c7 : e1 = 2
    · rw [if_pos c7] at h
      subst c7
      refine am_ev_catch (.invokevirtual 26) 62 6 637 [.ref 0, .int p2, .int p3, .int p4] [.int (0 : Int32), .ref 38] rfl rfl rfl rfl (ok_fJ_check hc1 D (by omega)) rfl 30 rfl rfl ?_
      refine am_ev_st 2 (f' := (33, [(5, .retAddr 1), (0, .ref 0), (1, .int p2), (2, .int p3), (3, .int p4), (4, .ref 38)], [.int (3 : Int32)], (W9 N_1 C E_1 F_1 P Q T G U H B O J V Y Z O9), k_1, n_1)) (g := True ∧ True ∧ True) (by with_unfolding_all rfl) ⟨trivial, trivial, trivial⟩ ?_
      cases h
      exact am_ev_ret 0 0 0 rfl .int rfl rfl rfl
    rw [if_neg c7] at h
    cases h
def fC_isFull (C : cC) : Option (Bool) :=
  match C with
  | (ct, cb, cm) =>
  if cm < (16 : Int32) then
  (some false)
  else
  some true
set_option maxHeartbeats 4000000 in
set_option maxRecDepth 100000 in
theorem ok_fC_isFull  {N : cN} {C : cC} {E : cE} {F : cF} {P : cP} {Q : cQ} {T : cT} {G : cG} {U : cU} {H : cH} {B : cB} {O : cO} {J : cJ} {V : cV} {Y : cY} {Z : cZ} {O9 : cO9} {k n : Nat} {rv : Bool} (h : fC_isFull C = some rv) (D : Nat) (hD : 1 ≤ D) : am_Call D 2 [.ref 7] (W9 N C E F P Q T G U H B O J V Y Z O9) k n (.inl (some (.int (am_bz rv))), W9 N C E F P Q T G U H B O J V Y Z O9, k, n) := by
  unfold fC_isFull at h
  obtain ⟨D, rfl⟩ : ∃ D', D = D' + 1 := ⟨D - 1, by omega⟩
  have hD : 0 ≤ D := by omega
  refine am_call_run (by decide) (by decide) rfl (Nat.le_of_ble_eq_true rfl) (by decide) (L := [(0, .ref 7)]) rfl ?_
  obtain ⟨ct, cb, cm⟩ := C
  try dsimp only at h
  refine am_ev_st 4 (f' := am_br (cm < (16 : Int32)) 13 6 [(0, .ref 7)] [] (W9 N (ct, cb, cm) E F P Q T G U H B O J V Y Z O9) k n) (g := True ∧ True ∧ True ∧ True ∧ True) (by with_unfolding_all rfl) ⟨trivial, trivial, trivial, trivial, trivial⟩ ?_
  by_cases c1 : cm < (16 : Int32)
  · rw [if_pos c1] at h
    refine am_ev_pos c1 ?_
    refine am_ev_st 1 (f' := (14, [(0, .ref 7)], [.int (0 : Int32)], (W9 N (ct, cb, cm) E F P Q T G U H B O J V Y Z O9), k, n)) (g := True ∧ True) (by with_unfolding_all rfl) ⟨trivial, trivial⟩ ?_
    cases h
    exact am_ev_ret 0 0 0 rfl .boolean rfl am_n0 rfl
  · rw [if_neg c1] at h
    refine am_ev_neg c1 ?_
    refine am_ev_st 2 (f' := (14, [(0, .ref 7)], [.int (1 : Int32)], (W9 N (ct, cb, cm) E F P Q T G U H B O J V Y Z O9), k, n)) (g := True ∧ True ∧ True) (by with_unfolding_all rfl) ⟨trivial, trivial, trivial⟩ ?_
    cases h
    exact am_ev_ret 0 0 0 rfl .boolean rfl am_n1 rfl
def fC_add (C : cC) (p1 p2 : Int32) : Option (Int32 × cC) :=
  match C with
  | (ct, cb, cm) =>
  if cm < 0 then
  (some ((-1 : Int32), C))
  else
  if cm < (16 : Int32) then
  (if (cm < 0 ∨ 16 ≤ (cm).toNatClampNeg) then none else
  if (cm < 0 ∨ 16 ≤ (cm).toNatClampNeg) then none else
  some (((cm + (1 : Int32)) - (1 : Int32)), ((upd ct (cm).toNatClampNeg p1), (upd cb (cm).toNatClampNeg p2), (cm + (1 : Int32)))))
  else
  some ((-1 : Int32), C)
set_option maxHeartbeats 4000000 in
set_option maxRecDepth 100000 in
theorem ok_fC_add  {N : cN} {C : cC} {E : cE} {F : cF} {P : cP} {Q : cQ} {T : cT} {G : cG} {U : cU} {H : cH} {B : cB} {O : cO} {J : cJ} {V : cV} {Y : cY} {Z : cZ} {O9 : cO9} {k n : Nat} {p1 p2 : Int32} {rv : Int32} {C' : cC} (h : fC_add C p1 p2 = some (rv, C')) (D : Nat) (hD : 1 ≤ D) : am_Call D 6 [.ref 7, .int p1, .int p2] (W9 N C E F P Q T G U H B O J V Y Z O9) k n (.inl (some (.int rv)), W9 N C' E F P Q T G U H B O J V Y Z O9, k, n) := by
  unfold fC_add at h
  obtain ⟨D, rfl⟩ : ∃ D', D = D' + 1 := ⟨D - 1, by omega⟩
  have hD : 0 ≤ D := by omega
  refine am_call_run (by decide) (by decide) rfl (Nat.le_of_ble_eq_true rfl) (by decide) (L := [(0, .ref 7), (1, .int p1), (2, .int p2)]) rfl ?_
  obtain ⟨ct, cb, cm⟩ := C
  try dsimp only at h
  refine am_ev_st 3 (f' := am_br (cm < 0) 16 4 [(0, .ref 7), (1, .int p1), (2, .int p2)] [] (W9 N (ct, cb, cm) E F P Q T G U H B O J V Y Z O9) k n) (g := True ∧ True ∧ True ∧ True) (by with_unfolding_all rfl) ⟨trivial, trivial, trivial, trivial⟩ ?_
  by_cases c1 : cm < 0
  · rw [if_pos c1] at h
    refine am_ev_pos c1 ?_
    refine am_ev_st 1 (f' := (17, [(0, .ref 7), (1, .int p1), (2, .int p2)], [.int (-1 : Int32)], (W9 N (ct, cb, cm) E F P Q T G U H B O J V Y Z O9), k, n)) (g := True ∧ True) (by with_unfolding_all rfl) ⟨trivial, trivial⟩ ?_
    cases h
    exact am_ev_ret 0 0 0 rfl .int rfl rfl rfl
  · rw [if_neg c1] at h
    refine am_ev_neg c1 ?_
    refine am_ev_st 4 (f' := am_br (cm < (16 : Int32)) 18 13 [(0, .ref 7), (1, .int p1), (2, .int p2)] [] (W9 N (ct, cb, cm) E F P Q T G U H B O J V Y Z O9) k n) (g := True ∧ True ∧ True ∧ True ∧ True) (by with_unfolding_all rfl) ⟨trivial, trivial, trivial, trivial, trivial⟩ ?_
    by_cases c2 : cm < (16 : Int32)
    · rw [if_pos c2] at h
      refine am_ev_pos c2 ?_
      by_cases g3 : (cm < 0 ∨ 16 ≤ (cm).toNatClampNeg)
      · rw [if_pos g3] at h; cases h
      rw [if_neg g3] at h
      by_cases g4 : (cm < 0 ∨ 16 ≤ (cm).toNatClampNeg)
      · rw [if_pos g4] at h; cases h
      rw [if_neg g4] at h
      refine am_ev_st 22 (f' := (54, [(0, .ref 7), (1, .int p1), (2, .int p2)], [.int ((cm + (1 : Int32)) - (1 : Int32))], (W9 N ((upd ct (cm).toNatClampNeg p1), (upd cb (cm).toNatClampNeg p2), (cm + (1 : Int32))) E F P Q T G U H B O J V Y Z O9), k, n)) (g := True ∧ True ∧ True ∧ True ∧ True ∧ vp_in (cm) 16 ∧ True ∧ True ∧ True ∧ True ∧ True ∧ vp_in (cm) 16 ∧ True ∧ True ∧ True ∧ True ∧ True ∧ True ∧ True ∧ True ∧ True ∧ True ∧ True) (by with_unfolding_all rfl) ⟨trivial, trivial, trivial, trivial, trivial, g3, trivial, trivial, trivial, trivial, trivial, g4, trivial, trivial, trivial, trivial, trivial, trivial, trivial, trivial, trivial, trivial, trivial⟩ ?_
      cases h
      exact am_ev_ret 0 0 0 rfl .int rfl rfl rfl
    · rw [if_neg c2] at h
      refine am_ev_neg c2 ?_
      refine am_ev_st 1 (f' := (17, [(0, .ref 7), (1, .int p1), (2, .int p2)], [.int (-1 : Int32)], (W9 N (ct, cb, cm) E F P Q T G U H B O J V Y Z O9), k, n)) (g := True ∧ True) (by with_unfolding_all rfl) ⟨trivial, trivial⟩ ?_
      cases h
      exact am_ev_ret 0 0 0 rfl .int rfl rfl rfl
def fJ_refuseUnlooked (E : cE) : Option (Int32 × cE) :=
  (fE_refuel E (0 : Int32)).bind fun z1 =>
  match z1 with
  | (E_1) =>
  some ((-1 : Int32), E_1)
set_option maxHeartbeats 4000000 in
set_option maxRecDepth 100000 in
theorem ok_fJ_refuseUnlooked  {N : cN} {C : cC} {E : cE} {F : cF} {P : cP} {Q : cQ} {T : cT} {G : cG} {U : cU} {H : cH} {B : cB} {O : cO} {J : cJ} {V : cV} {Y : cY} {Z : cZ} {O9 : cO9} {k n : Nat} {rv : Int32} {E' : cE} (h : fJ_refuseUnlooked E = some (rv, E')) (D : Nat) (hD : 2 ≤ D) : am_Call D 74 [.ref 0] (W9 N C E F P Q T G U H B O J V Y Z O9) k n (.inl (some (.int rv)), W9 N C E' F P Q T G U H B O J V Y Z O9, k, n) := by
  unfold fJ_refuseUnlooked at h
  obtain ⟨D, rfl⟩ : ∃ D', D = D' + 1 := ⟨D - 1, by omega⟩
  have hD : 1 ≤ D := by omega
  refine am_call_run (by decide) (by decide) rfl (Nat.le_of_ble_eq_true rfl) (by decide) (L := [(0, .ref 0)]) rfl ?_
  refine am_ev_st 3 (f' := (5, [(0, .ref 0)], [.int (0 : Int32), .ref 10], (W9 N C E F P Q T G U H B O J V Y Z O9), k, n)) (g := True ∧ True ∧ True ∧ True) (by with_unfolding_all rfl) ⟨trivial, trivial, trivial, trivial⟩ ?_
  replace h := Option.bind_eq_some_iff.mp h
  obtain ⟨E_1, hc1, h⟩ := h
  try dsimp only at h
  refine am_ev_call (.invokevirtual 167) 46 2 489 [.ref 10, .int (0 : Int32)] [] rfl rfl rfl rfl (ok_fE_refuel hc1 D (by omega)) rfl ?_
  refine am_ev_st 1 (f' := (9, [(0, .ref 0)], [.int (-1 : Int32)], (W9 N C E_1 F P Q T G U H B O J V Y Z O9), k, n)) (g := True ∧ True) (by with_unfolding_all rfl) ⟨trivial, trivial⟩ ?_
  cases h
  exact am_ev_ret 0 0 0 rfl .int rfl rfl rfl
def fJ_declare (fl : Nat) (d : Nat) (N : cN) (C : cC) (E : cE) (F : cF) (k n : Nat) (p1 p2 : Int32) : Option (((Int32) ⊕ Nat) × cN × cC × cE × cF × (Nat × Nat)) :=
  (fC_isFull C).bind fun z1 =>
  match z1 with
  | (r1) =>
  if (am_bz r1) = 0 then
  ((fJ_begin N E F k n p1 p1 p2).bind fun z3 =>
  match z3 with
  | (.inl (), N_3, E_3, F_3, (k_3, n_3)) =>
  ((fF_typeFound fl d N_3 C E_3 F_3 k_3 n_3 p1).bind fun z4 =>
  match z4 with
  | (.inl r4, N_4, E_4, F_4, (k_4, n_4)) =>
  ((fF_levelOf fl d N_4 C E_4 k_4 n_4 r4).bind fun z5 =>
  match z5 with
  | (.inl r5, N_5, E_5, (k_5, n_5)) =>
  ((fC_add C p1 (-1 : Int32)).bind fun z6 =>
  match z6 with
  | (r6, C_6) =>
  some (.inl r6, N_5, C_6, E_5, F_4, (k_5, n_5)))
  | (.inr e5, N_5, E_5, (k_5, n_5)) =>
  (some (.inr e5, N_5, C, E_5, F_4, (k_5, n_5))))
  | (.inr e4, N_4, E_4, F_4, (k_4, n_4)) =>
  (some (.inr e4, N_4, C, E_4, F_4, (k_4, n_4))))
  | (.inr e3, N_3, E_3, F_3, (k_3, n_3)) =>
  (some (.inr e3, N_3, C, E_3, F_3, (k_3, n_3))))
  else
  (fJ_refuseUnlooked E).bind fun z7 =>
  match z7 with
  | (r7, E_7) =>
  some (.inl r7, N, C, E_7, F, (k, n))
set_option maxHeartbeats 4000000 in
set_option maxRecDepth 100000 in
theorem ok_fJ_declare {fl d : Nat} {N : cN} {C : cC} {E : cE} {F : cF} {P : cP} {Q : cQ} {T : cT} {G : cG} {U : cU} {H : cH} {B : cB} {O : cO} {J : cJ} {V : cV} {Y : cY} {Z : cZ} {O9 : cO9} {k n : Nat} {p1 p2 : Int32} {rv : (Int32) ⊕ Nat} {N' : cN} {C' : cC} {E' : cE} {F' : cF} {k' n' : Nat} (h : fJ_declare fl d N C E F k n p1 p2 = some (rv, N', C', E', F', (k', n'))) (D : Nat) (hD : d + 6 ≤ D) : am_Call D 63 [.ref 0, .int p1, .int p2] (W9 N C E F P Q T G U H B O J V Y Z O9) k n (am_oI rv, W9 N' C' E' F' P Q T G U H B O J V Y Z O9, k', n') := by
  unfold fJ_declare at h
  obtain ⟨D, rfl⟩ : ∃ D', D = D' + 1 := ⟨D - 1, by omega⟩
  have hD : d + 5 ≤ D := by omega
  refine am_call_run (by decide) (by decide) rfl (Nat.le_of_ble_eq_true rfl) (by decide) (L := [(0, .ref 0), (1, .int p1), (2, .int p2)]) rfl ?_
  refine am_ev_st 2 (f' := (4, [(0, .ref 0), (1, .int p1), (2, .int p2)], [.ref 7], (W9 N C E F P Q T G U H B O J V Y Z O9), k, n)) (g := True ∧ True ∧ True) (by with_unfolding_all rfl) ⟨trivial, trivial, trivial⟩ ?_
  replace h := Option.bind_eq_some_iff.mp h
  obtain ⟨r1, hc1, h⟩ := h
  try dsimp only at h
  refine am_ev_call (.invokevirtual 107) 2 0 649 [.ref 7] [] rfl rfl rfl rfl (ok_fC_isFull hc1 D (by omega)) rfl ?_
  refine am_ev_st 1 (f' := am_br ((am_bz r1) = 0) 15 7 [(0, .ref 0), (1, .int p1), (2, .int p2)] [] (W9 N C E F P Q T G U H B O J V Y Z O9) k n) (g := True ∧ True) (by with_unfolding_all rfl) ⟨trivial, trivial⟩ ?_
  by_cases c2 : (am_bz r1) = 0
  · rw [if_pos c2] at h
    refine am_ev_pos c2 ?_
    refine am_ev_st 4 (f' := (19, [(0, .ref 0), (1, .int p1), (2, .int p2)], [.int p2, .int p1, .int p1, .ref 0], (W9 N C E F P Q T G U H B O J V Y Z O9), k, n)) (g := True ∧ True ∧ True ∧ True ∧ True) (by with_unfolding_all rfl) ⟨trivial, trivial, trivial, trivial, trivial⟩ ?_
    replace h := Option.bind_eq_some_iff.mp h
    obtain ⟨⟨⟨⟩ | e3, N_3, E_3, F_3, ⟨k_3, n_3⟩⟩, hc3, h⟩ := h
    · dsimp only at h
      refine am_ev_call (.invokevirtual 86) 73 6 465 [.ref 0, .int p1, .int p1, .int p2] [] rfl rfl rfl rfl (ok_fJ_begin hc3 D (by omega)) rfl ?_
      refine am_ev_st 5 (f' := (31, [(0, .ref 0), (1, .int p1), (2, .int p2)], [.int p1, .ref 13, .ref 13], (W9 N_3 C E_3 F_3 P Q T G U H B O J V Y Z O9), k_3, n_3)) (g := True ∧ True ∧ True ∧ True ∧ True ∧ True) (by with_unfolding_all rfl) ⟨trivial, trivial, trivial, trivial, trivial, trivial⟩ ?_
      replace h := Option.bind_eq_some_iff.mp h
      obtain ⟨⟨r4 | e4, N_4, E_4, F_4, ⟨k_4, n_4⟩⟩, hc4, h⟩ := h
      · dsimp only at h
        refine am_ev_call (.invokevirtual 90) 9 2 497 [.ref 13, .int p1] [.ref 13] rfl rfl rfl rfl (ok_fF_typeFound hc4 D (by omega)) rfl ?_
        replace h := Option.bind_eq_some_iff.mp h
        obtain ⟨⟨r5 | e5, N_5, E_5, ⟨k_5, n_5⟩⟩, hc5, h⟩ := h
        · dsimp only at h
          refine am_ev_call (.invokevirtual 104) 10 2 641 [.ref 13, .int r4] [] rfl rfl rfl rfl (ok_fF_levelOf hc5 D (by omega)) rfl ?_
          refine am_ev_st 5 (f' := (44, [(0, .ref 0), (1, .int p1), (2, .int p2)], [.int (-1 : Int32), .int p1, .ref 7], (W9 N_5 C E_5 F_4 P Q T G U H B O J V Y Z O9), k_5, n_5)) (g := True ∧ True ∧ True ∧ True ∧ True ∧ True) (by with_unfolding_all rfl) ⟨trivial, trivial, trivial, trivial, trivial, trivial⟩ ?_
          replace h := Option.bind_eq_some_iff.mp h
          obtain ⟨⟨r6, C_6⟩, hc6, h⟩ := h
          try dsimp only at h
          refine am_ev_call (.invokevirtual 114) 6 4 657 [.ref 7, .int p1, .int (-1 : Int32)] [] rfl rfl rfl rfl (ok_fC_add hc6 D (by omega)) rfl ?_
          cases h
          exact am_ev_ret 0 0 0 rfl .int rfl rfl rfl
        · dsimp only at h
          cases h
          exact am_ev_callx (.invokevirtual 104) 10 2 641 [.ref 13, .int r4] [] rfl rfl rfl rfl (ok_fF_levelOf hc5 D (by omega)) rfl rfl rfl
      · dsimp only at h
        cases h
        exact am_ev_callx (.invokevirtual 90) 9 2 497 [.ref 13, .int p1] [.ref 13] rfl rfl rfl rfl (ok_fF_typeFound hc4 D (by omega)) rfl rfl rfl
    · dsimp only at h
      cases h
      exact am_ev_callx (.invokevirtual 86) 73 6 465 [.ref 0, .int p1, .int p1, .int p2] [] rfl rfl rfl rfl (ok_fJ_begin hc3 D (by omega)) rfl rfl rfl
  · rw [if_neg c2] at h
    refine am_ev_neg c2 ?_
    refine am_ev_st 1 (f' := (11, [(0, .ref 0), (1, .int p1), (2, .int p2)], [.ref 0], (W9 N C E F P Q T G U H B O J V Y Z O9), k, n)) (g := True ∧ True) (by with_unfolding_all rfl) ⟨trivial, trivial⟩ ?_
    replace h := Option.bind_eq_some_iff.mp h
    obtain ⟨⟨r7, E_7⟩, hc7, h⟩ := h
    try dsimp only at h
    refine am_ev_call (.invokevirtual 111) 74 0 653 [.ref 0] [] rfl rfl rfl rfl (ok_fJ_refuseUnlooked hc7 D (by omega)) rfl ?_
    cases h
    exact am_ev_ret 0 0 0 rfl .int rfl rfl rfl
def fL_declare (fl : Nat) (d : Nat) (N : cN) (C : cC) (E : cE) (F : cF) (O9 : cO9) (k n : Nat) (p2 p3 : Int32) : Option (Int32 × cN × cC × cE × cF × cO9 × (Nat × Nat)) :=
  (fJ_declare fl d N C E F k n p2 p3).bind fun z1 =>
  match z1 with
  | (.inl r1, N_1, C_1, E_1, F_1, (k_1, n_1)) =>
  (if ((0 : Int32) < 0 ∨ 1 ≤ ((0 : Int32)).toNatClampNeg) then none else
  some ((0 : Int32), N_1, C_1, E_1, F_1, ((vp_updL O9 ((0 : Int32)).toNatClampNeg r1.toInt64)), (k_1, n_1)))
  | (.inr e1, N_1, C_1, E_1, F_1, (k_1, n_1)) =>
  (if e1 = 0 then
  (some ((1 : Int32), N_1, C_1, E_1, F_1, O9, (k_1, n_1)))
  else
  if e1 = 1 then
  (some ((2 : Int32), N_1, C_1, E_1, F_1, O9, (k_1, n_1)))
  else
  if e1 = 2 then
  (some ((3 : Int32), N_1, C_1, E_1, F_1, O9, (k_1, n_1)))
  else
  none)
set_option maxHeartbeats 4000000 in
set_option maxRecDepth 100000 in
theorem ok_fL_declare {fl d : Nat} {N : cN} {C : cC} {E : cE} {F : cF} {P : cP} {Q : cQ} {T : cT} {G : cG} {U : cU} {H : cH} {B : cB} {O : cO} {J : cJ} {V : cV} {Y : cY} {Z : cZ} {O9 : cO9} {k n : Nat} {p2 p3 : Int32} {rv : Int32} {N' : cN} {C' : cC} {E' : cE} {F' : cF} {O9' : cO9} {k' n' : Nat} (h : fL_declare fl d N C E F O9 k n p2 p3 = some (rv, N', C', E', F', O9', (k', n'))) (D : Nat) (hD : d + 7 ≤ D) : am_Call D 130 [.ref 0, .int p2, .int p3, .ref 38] (W9 N C E F P Q T G U H B O J V Y Z O9) k n (.inl (some (.int rv)), W9 N' C' E' F' P Q T G U H B O J V Y Z O9', k', n') := by
  unfold fL_declare at h
  obtain ⟨D, rfl⟩ : ∃ D', D = D' + 1 := ⟨D - 1, by omega⟩
  have hD : d + 6 ≤ D := by omega
  refine am_call_run (by decide) (by decide) rfl (Nat.le_of_ble_eq_true rfl) (by decide) (L := [(0, .ref 0), (1, .int p2), (2, .int p3), (3, .ref 38)]) rfl ?_
  refine am_ev_st 5 (f' := (5, [(0, .ref 0), (1, .int p2), (2, .int p3), (3, .ref 38)], [.int p3, .int p2, .ref 0, .int (0 : Int32), .ref 38], (W9 N C E F P Q T G U H B O J V Y Z O9), k, n)) (g := True ∧ True ∧ True ∧ True ∧ True ∧ True) (by with_unfolding_all rfl) ⟨trivial, trivial, trivial, trivial, trivial, trivial⟩ ?_
  replace h := Option.bind_eq_some_iff.mp h
  obtain ⟨⟨r1 | e1, N_1, C_1, E_1, F_1, ⟨k_1, n_1⟩⟩, hc1, h⟩ := h
  · dsimp only at h
    refine am_ev_call (.invokevirtual 29) 63 4 645 [.ref 0, .int p2, .int p3] [.int (0 : Int32), .ref 38] rfl rfl rfl rfl (ok_fJ_declare hc1 D (by omega)) rfl ?_
    by_cases g2 : ((0 : Int32) < 0 ∨ 1 ≤ ((0 : Int32)).toNatClampNeg)
    · rw [if_pos g2] at h; cases h
    rw [if_neg g2] at h
    refine am_ev_st 4 (f' := (26, [(0, .ref 0), (1, .int p2), (2, .int p3), (3, .ref 38)], [.int (0 : Int32)], (W9 N_1 C_1 E_1 F_1 P Q T G U H B O J V Y Z ((vp_updL O9 ((0 : Int32)).toNatClampNeg r1.toInt64))), k_1, n_1)) (g := True ∧ vp_in ((0 : Int32)) 1 ∧ True ∧ True ∧ True) (by with_unfolding_all rfl) ⟨trivial, g2, trivial, trivial, trivial⟩ ?_
    cases h
    exact am_ev_ret 0 0 0 rfl .int rfl rfl rfl
  · dsimp only at h
    by_cases c3 : e1 = 0
    · rw [if_pos c3] at h
      subst c3
      refine am_ev_catch (.invokevirtual 29) 63 4 645 [.ref 0, .int p2, .int p3] [.int (0 : Int32), .ref 38] rfl rfl rfl rfl (ok_fJ_declare hc1 D (by omega)) rfl 13 rfl rfl ?_
      refine am_ev_st 2 (f' := (16, [(4, .retAddr 1), (0, .ref 0), (1, .int p2), (2, .int p3), (3, .ref 38)], [.int (1 : Int32)], (W9 N_1 C_1 E_1 F_1 P Q T G U H B O J V Y Z O9), k_1, n_1)) (g := True ∧ True ∧ True) (by with_unfolding_all rfl) ⟨trivial, trivial, trivial⟩ ?_
      cases h
      exact am_ev_ret 0 0 0 rfl .int rfl rfl rfl
    rw [if_neg c3] at h
    by_cases c4 : e1 = 1
    · rw [if_pos c4] at h
      subst c4
      refine am_ev_catch (.invokevirtual 29) 63 4 645 [.ref 0, .int p2, .int p3] [.int (0 : Int32), .ref 38] rfl rfl rfl rfl (ok_fJ_declare hc1 D (by omega)) rfl 17 rfl rfl ?_
      refine am_ev_st 2 (f' := (20, [(4, .retAddr 1), (0, .ref 0), (1, .int p2), (2, .int p3), (3, .ref 38)], [.int (2 : Int32)], (W9 N_1 C_1 E_1 F_1 P Q T G U H B O J V Y Z O9), k_1, n_1)) (g := True ∧ True ∧ True) (by with_unfolding_all rfl) ⟨trivial, trivial, trivial⟩ ?_
      cases h
      exact am_ev_ret 0 0 0 rfl .int rfl rfl rfl
    rw [if_neg c4] at h
    by_cases c5 : e1 = 2
    · rw [if_pos c5] at h
      subst c5
      refine am_ev_catch (.invokevirtual 29) 63 4 645 [.ref 0, .int p2, .int p3] [.int (0 : Int32), .ref 38] rfl rfl rfl rfl (ok_fJ_declare hc1 D (by omega)) rfl 21 rfl rfl ?_
      refine am_ev_st 2 (f' := (24, [(4, .retAddr 1), (0, .ref 0), (1, .int p2), (2, .int p3), (3, .ref 38)], [.int (3 : Int32)], (W9 N_1 C_1 E_1 F_1 P Q T G U H B O J V Y Z O9), k_1, n_1)) (g := True ∧ True ∧ True) (by with_unfolding_all rfl) ⟨trivial, trivial, trivial⟩ ?_
      cases h
      exact am_ev_ret 0 0 0 rfl .int rfl rfl rfl
    rw [if_neg c5] at h
    cases h
def fM_at_Q (Q : cQ) (p1 : Int32) : Option (Int32) :=
  if p1 < 0 then
  (some (-1 : Int32))
  else
  match Q with
  | (qr, ql, qx) =>
  if ql ≤ p1 then
  (some (-1 : Int32))
  else
  if (60 : Int32) ≤ p1 then
  (some (-1 : Int32))
  else
  if (p1 < 0 ∨ 60 ≤ (p1).toNatClampNeg) then none else
  some (qr (p1).toNatClampNeg)
set_option maxHeartbeats 4000000 in
set_option maxRecDepth 100000 in
theorem ok_fM_at_Q  {N : cN} {C : cC} {E : cE} {F : cF} {P : cP} {Q : cQ} {T : cT} {G : cG} {U : cU} {H : cH} {B : cB} {O : cO} {J : cJ} {V : cV} {Y : cY} {Z : cZ} {O9 : cO9} {k n : Nat} {p1 : Int32} {rv : Int32} (h : fM_at_Q Q p1 = some rv) (D : Nat) (hD : 1 ≤ D) : am_Call D 19 [.ref 17, .int p1] (W9 N C E F P Q T G U H B O J V Y Z O9) k n (.inl (some (.int rv)), W9 N C E F P Q T G U H B O J V Y Z O9, k, n) := by
  unfold fM_at_Q at h
  obtain ⟨D, rfl⟩ : ∃ D', D = D' + 1 := ⟨D - 1, by omega⟩
  have hD : 0 ≤ D := by omega
  refine am_call_run (by decide) (by decide) rfl (Nat.le_of_ble_eq_true rfl) (by decide) (L := [(0, .ref 17), (1, .int p1)]) rfl ?_
  refine am_ev_st 2 (f' := am_br (p1 < 0) 27 1 [(0, .ref 17), (1, .int p1)] [] (W9 N C E F P Q T G U H B O J V Y Z O9) k n) (g := True ∧ True ∧ True) (by with_unfolding_all rfl) ⟨trivial, trivial, trivial⟩ ?_
  by_cases c1 : p1 < 0
  · rw [if_pos c1] at h
    refine am_ev_pos c1 ?_
    refine am_ev_st 1 (f' := (28, [(0, .ref 17), (1, .int p1)], [.int (-1 : Int32)], (W9 N C E F P Q T G U H B O J V Y Z O9), k, n)) (g := True ∧ True) (by with_unfolding_all rfl) ⟨trivial, trivial⟩ ?_
    cases h
    exact am_ev_ret 0 0 0 rfl .int rfl rfl rfl
  · rw [if_neg c1] at h
    refine am_ev_neg c1 ?_
    obtain ⟨qr, ql, qx⟩ := Q
    try dsimp only at h
    refine am_ev_st 4 (f' := am_br (ql ≤ p1) 27 9 [(0, .ref 17), (1, .int p1)] [] (W9 N C E F P (qr, ql, qx) T G U H B O J V Y Z O9) k n) (g := True ∧ True ∧ True ∧ True ∧ True) (by with_unfolding_all rfl) ⟨trivial, trivial, trivial, trivial, trivial⟩ ?_
    by_cases c2 : ql ≤ p1
    · rw [if_pos c2] at h
      refine am_ev_pos c2 ?_
      refine am_ev_st 1 (f' := (28, [(0, .ref 17), (1, .int p1)], [.int (-1 : Int32)], (W9 N C E F P (qr, ql, qx) T G U H B O J V Y Z O9), k, n)) (g := True ∧ True) (by with_unfolding_all rfl) ⟨trivial, trivial⟩ ?_
      cases h
      exact am_ev_ret 0 0 0 rfl .int rfl rfl rfl
    · rw [if_neg c2] at h
      refine am_ev_neg c2 ?_
      refine am_ev_st 3 (f' := am_br ((60 : Int32) ≤ p1) 27 15 [(0, .ref 17), (1, .int p1)] [] (W9 N C E F P (qr, ql, qx) T G U H B O J V Y Z O9) k n) (g := True ∧ True ∧ True ∧ True) (by with_unfolding_all rfl) ⟨trivial, trivial, trivial, trivial⟩ ?_
      by_cases c3 : (60 : Int32) ≤ p1
      · rw [if_pos c3] at h
        refine am_ev_pos c3 ?_
        refine am_ev_st 1 (f' := (28, [(0, .ref 17), (1, .int p1)], [.int (-1 : Int32)], (W9 N C E F P (qr, ql, qx) T G U H B O J V Y Z O9), k, n)) (g := True ∧ True) (by with_unfolding_all rfl) ⟨trivial, trivial⟩ ?_
        cases h
        exact am_ev_ret 0 0 0 rfl .int rfl rfl rfl
      · rw [if_neg c3] at h
        refine am_ev_neg c3 ?_
        by_cases g4 : (p1 < 0 ∨ 60 ≤ (p1).toNatClampNeg)
        · rw [if_pos g4] at h; cases h
        rw [if_neg g4] at h
        refine am_ev_st 5 (f' := (28, [(0, .ref 17), (1, .int p1)], [.int (qr (p1).toNatClampNeg)], (W9 N C E F P (qr, ql, qx) T G U H B O J V Y Z O9), k, n)) (g := True ∧ True ∧ True ∧ vp_in (p1) 60 ∧ True ∧ True) (by with_unfolding_all rfl) ⟨trivial, trivial, trivial, g4, trivial, trivial⟩ ?_
        cases h
        exact am_ev_ret 0 0 0 rfl .int rfl rfl rfl
