def fL_infer (N : cN) (E : cE) (F : cF) (O9 : cO9) (k n : Nat) (p2 p3 : Int32) : Option (Int32 × cN × cE × cF × cO9 × (Nat × Nat)) :=
  (fJ_infer N E F k n p2 p3).bind fun z1 =>
  match z1 with
  | (.inl r1, N_1, E_1, F_1, (k_1, n_1)) =>
  (if ((0 : Int32) < 0 ∨ 1 ≤ ((0 : Int32)).toNatClampNeg) then none else
  some ((0 : Int32), N_1, E_1, F_1, ((vp_updL O9 ((0 : Int32)).toNatClampNeg r1.toInt64)), (k_1, n_1)))
  | (.inr e1, N_1, E_1, F_1, (k_1, n_1)) =>
  (if e1 = 0 then
  (some ((1 : Int32), N_1, E_1, F_1, O9, (k_1, n_1)))
  else
  if e1 = 1 then
  (some ((2 : Int32), N_1, E_1, F_1, O9, (k_1, n_1)))
  else
  if e1 = 2 then
  (some ((3 : Int32), N_1, E_1, F_1, O9, (k_1, n_1)))
  else
  none)
set_option maxHeartbeats 4000000 in
set_option maxRecDepth 100000 in
theorem ok_fL_infer  {N : cN} {C : cC} {E : cE} {F : cF} {P : cP} {Q : cQ} {T : cT} {G : cG} {U : cU} {H : cH} {B : cB} {O : cO} {J : cJ} {V : cV} {Y : cY} {Z : cZ} {O9 : cO9} {k n : Nat} {p2 p3 : Int32} {rv : Int32} {N' : cN} {E' : cE} {F' : cF} {O9' : cO9} {k' n' : Nat} (h : fL_infer N E F O9 k n p2 p3 = some (rv, N', E', F', O9', (k', n'))) (D : Nat) (hD : 4 ≤ D) : am_Call D 126 [.ref 0, .int p2, .int p3, .ref 38] (W9 N C E F P Q T G U H B O J V Y Z O9) k n (.inl (some (.int rv)), W9 N' C E' F' P Q T G U H B O J V Y Z O9', k', n') := by
  unfold fL_infer at h
  obtain ⟨D, rfl⟩ : ∃ D', D = D' + 1 := ⟨D - 1, by omega⟩
  have hD : 3 ≤ D := by omega
  refine am_call_run (by decide) (by decide) rfl (Nat.le_of_ble_eq_true rfl) (by decide) (L := [(0, .ref 0), (1, .int p2), (2, .int p3), (3, .ref 38)]) rfl ?_
  refine am_ev_st 5 (f' := (5, [(0, .ref 0), (1, .int p2), (2, .int p3), (3, .ref 38)], [.int p3, .int p2, .ref 0, .int (0 : Int32), .ref 38], (W9 N C E F P Q T G U H B O J V Y Z O9), k, n)) (g := True ∧ True ∧ True ∧ True ∧ True ∧ True) (by with_unfolding_all rfl) ⟨trivial, trivial, trivial, trivial, trivial, trivial⟩ ?_
  replace h := Option.bind_eq_some_iff.mp h
  obtain ⟨⟨r1 | e1, N_1, E_1, F_1, ⟨k_1, n_1⟩⟩, hc1, h⟩ := h
  · dsimp only at h
    refine am_ev_call (.invokevirtual 7) 59 4 461 [.ref 0, .int p2, .int p3] [.int (0 : Int32), .ref 38] rfl rfl rfl rfl (ok_fJ_infer hc1 D (by omega)) rfl ?_
    by_cases g2 : ((0 : Int32) < 0 ∨ 1 ≤ ((0 : Int32)).toNatClampNeg)
    · rw [if_pos g2] at h; cases h
    rw [if_neg g2] at h
    refine am_ev_st 4 (f' := (26, [(0, .ref 0), (1, .int p2), (2, .int p3), (3, .ref 38)], [.int (0 : Int32)], (W9 N_1 C E_1 F_1 P Q T G U H B O J V Y Z ((vp_updL O9 ((0 : Int32)).toNatClampNeg r1.toInt64))), k_1, n_1)) (g := True ∧ vp_in ((0 : Int32)) 1 ∧ True ∧ True ∧ True) (by with_unfolding_all rfl) ⟨trivial, g2, trivial, trivial, trivial⟩ ?_
    cases h
    exact am_ev_ret 0 0 0 rfl .int rfl rfl rfl
  · dsimp only at h
    by_cases c3 : e1 = 0
    · rw [if_pos c3] at h
      subst c3
      refine am_ev_catch (.invokevirtual 7) 59 4 461 [.ref 0, .int p2, .int p3] [.int (0 : Int32), .ref 38] rfl rfl rfl rfl (ok_fJ_infer hc1 D (by omega)) rfl 13 rfl rfl ?_
      refine am_ev_st 2 (f' := (16, [(4, .retAddr 1), (0, .ref 0), (1, .int p2), (2, .int p3), (3, .ref 38)], [.int (1 : Int32)], (W9 N_1 C E_1 F_1 P Q T G U H B O J V Y Z O9), k_1, n_1)) (g := True ∧ True ∧ True) (by with_unfolding_all rfl) ⟨trivial, trivial, trivial⟩ ?_
      cases h
      exact am_ev_ret 0 0 0 rfl .int rfl rfl rfl
    rw [if_neg c3] at h
    by_cases c4 : e1 = 1
    · rw [if_pos c4] at h
      subst c4
      refine am_ev_catch (.invokevirtual 7) 59 4 461 [.ref 0, .int p2, .int p3] [.int (0 : Int32), .ref 38] rfl rfl rfl rfl (ok_fJ_infer hc1 D (by omega)) rfl 17 rfl rfl ?_
      refine am_ev_st 2 (f' := (20, [(4, .retAddr 1), (0, .ref 0), (1, .int p2), (2, .int p3), (3, .ref 38)], [.int (2 : Int32)], (W9 N_1 C E_1 F_1 P Q T G U H B O J V Y Z O9), k_1, n_1)) (g := True ∧ True ∧ True) (by with_unfolding_all rfl) ⟨trivial, trivial, trivial⟩ ?_
      cases h
      exact am_ev_ret 0 0 0 rfl .int rfl rfl rfl
    rw [if_neg c4] at h
    by_cases c5 : e1 = 2
    · rw [if_pos c5] at h
      subst c5
      refine am_ev_catch (.invokevirtual 7) 59 4 461 [.ref 0, .int p2, .int p3] [.int (0 : Int32), .ref 38] rfl rfl rfl rfl (ok_fJ_infer hc1 D (by omega)) rfl 21 rfl rfl ?_
      refine am_ev_st 2 (f' := (24, [(4, .retAddr 1), (0, .ref 0), (1, .int p2), (2, .int p3), (3, .ref 38)], [.int (3 : Int32)], (W9 N_1 C E_1 F_1 P Q T G U H B O J V Y Z O9), k_1, n_1)) (g := True ∧ True ∧ True) (by with_unfolding_all rfl) ⟨trivial, trivial, trivial⟩ ?_
      cases h
      exact am_ev_ret 0 0 0 rfl .int rfl rfl rfl
    rw [if_neg c5] at h
    cases h
def fJ_reduce (N : cN) (E : cE) (F : cF) (k n : Nat) (p1 p2 : Int32) : Option (((Int32) ⊕ Nat) × cN × cE × cF × (Nat × Nat)) :=
  (fJ_begin N E F k n p1 p1 p2).bind fun z1 =>
  match z1 with
  | (.inl (), N_1, E_1, F_1, (k_1, n_1)) =>
  (none)
  | (.inr e1, N_1, E_1, F_1, (k_1, n_1)) =>
  (some (.inr e1, N_1, E_1, F_1, (k_1, n_1)))
set_option maxHeartbeats 4000000 in
set_option maxRecDepth 100000 in
theorem ok_fJ_reduce  {N : cN} {C : cC} {E : cE} {F : cF} {P : cP} {Q : cQ} {T : cT} {G : cG} {U : cU} {H : cH} {B : cB} {O : cO} {J : cJ} {V : cV} {Y : cY} {Z : cZ} {O9 : cO9} {k n : Nat} {p1 p2 : Int32} {rv : (Int32) ⊕ Nat} {N' : cN} {E' : cE} {F' : cF} {k' n' : Nat} (h : fJ_reduce N E F k n p1 p2 = some (rv, N', E', F', (k', n'))) (D : Nat) (hD : 3 ≤ D) : am_Call D 60 [.ref 0, .int p1, .int p2] (W9 N C E F P Q T G U H B O J V Y Z O9) k n (am_oI rv, W9 N' C E' F' P Q T G U H B O J V Y Z O9, k', n') := by
  unfold fJ_reduce at h
  obtain ⟨D, rfl⟩ : ∃ D', D = D' + 1 := ⟨D - 1, by omega⟩
  have hD : 2 ≤ D := by omega
  refine am_call_run (by decide) (by decide) rfl (Nat.le_of_ble_eq_true rfl) (by decide) (L := [(0, .ref 0), (1, .int p1), (2, .int p2)]) rfl ?_
  refine am_ev_st 4 (f' := (4, [(0, .ref 0), (1, .int p1), (2, .int p2)], [.int p2, .int p1, .int p1, .ref 0], (W9 N C E F P Q T G U H B O J V Y Z O9), k, n)) (g := True ∧ True ∧ True ∧ True ∧ True) (by with_unfolding_all rfl) ⟨trivial, trivial, trivial, trivial, trivial⟩ ?_
  replace h := Option.bind_eq_some_iff.mp h
  obtain ⟨⟨⟨⟩ | e1, N_1, E_1, F_1, ⟨k_1, n_1⟩⟩, hc1, h⟩ := h
  · dsimp only at h
    refine am_ev_call (.invokevirtual 86) 73 6 465 [.ref 0, .int p1, .int p1, .int p2] [] rfl rfl rfl rfl (ok_fJ_begin hc1 D (by omega)) rfl ?_
    cases h
  · dsimp only at h
    cases h
    exact am_ev_callx (.invokevirtual 86) 73 6 465 [.ref 0, .int p1, .int p1, .int p2] [] rfl rfl rfl rfl (ok_fJ_begin hc1 D (by omega)) rfl rfl rfl
def fL_reduce (N : cN) (E : cE) (F : cF) (O9 : cO9) (k n : Nat) (p2 p3 : Int32) : Option (Int32 × cN × cE × cF × cO9 × (Nat × Nat)) :=
  (fJ_reduce N E F k n p2 p3).bind fun z1 =>
  match z1 with
  | (.inl r1, N_1, E_1, F_1, (k_1, n_1)) =>
  (if ((0 : Int32) < 0 ∨ 1 ≤ ((0 : Int32)).toNatClampNeg) then none else
  some ((0 : Int32), N_1, E_1, F_1, ((vp_updL O9 ((0 : Int32)).toNatClampNeg r1.toInt64)), (k_1, n_1)))
  | (.inr e1, N_1, E_1, F_1, (k_1, n_1)) =>
  (if e1 = 0 then
  (some ((1 : Int32), N_1, E_1, F_1, O9, (k_1, n_1)))
  else
  if e1 = 2 then
  (some ((2 : Int32), N_1, E_1, F_1, O9, (k_1, n_1)))
  else
  none)
set_option maxHeartbeats 4000000 in
set_option maxRecDepth 100000 in
theorem ok_fL_reduce  {N : cN} {C : cC} {E : cE} {F : cF} {P : cP} {Q : cQ} {T : cT} {G : cG} {U : cU} {H : cH} {B : cB} {O : cO} {J : cJ} {V : cV} {Y : cY} {Z : cZ} {O9 : cO9} {k n : Nat} {p2 p3 : Int32} {rv : Int32} {N' : cN} {E' : cE} {F' : cF} {O9' : cO9} {k' n' : Nat} (h : fL_reduce N E F O9 k n p2 p3 = some (rv, N', E', F', O9', (k', n'))) (D : Nat) (hD : 4 ≤ D) : am_Call D 127 [.ref 0, .int p2, .int p3, .ref 38] (W9 N C E F P Q T G U H B O J V Y Z O9) k n (.inl (some (.int rv)), W9 N' C E' F' P Q T G U H B O J V Y Z O9', k', n') := by
  unfold fL_reduce at h
  obtain ⟨D, rfl⟩ : ∃ D', D = D' + 1 := ⟨D - 1, by omega⟩
  have hD : 3 ≤ D := by omega
  refine am_call_run (by decide) (by decide) rfl (Nat.le_of_ble_eq_true rfl) (by decide) (L := [(0, .ref 0), (1, .int p2), (2, .int p3), (3, .ref 38)]) rfl ?_
  refine am_ev_st 5 (f' := (5, [(0, .ref 0), (1, .int p2), (2, .int p3), (3, .ref 38)], [.int p3, .int p2, .ref 0, .int (0 : Int32), .ref 38], (W9 N C E F P Q T G U H B O J V Y Z O9), k, n)) (g := True ∧ True ∧ True ∧ True ∧ True ∧ True) (by with_unfolding_all rfl) ⟨trivial, trivial, trivial, trivial, trivial, trivial⟩ ?_
  replace h := Option.bind_eq_some_iff.mp h
  obtain ⟨⟨r1 | e1, N_1, E_1, F_1, ⟨k_1, n_1⟩⟩, hc1, h⟩ := h
  · dsimp only at h
    refine am_ev_call (.invokevirtual 19) 60 4 621 [.ref 0, .int p2, .int p3] [.int (0 : Int32), .ref 38] rfl rfl rfl rfl (ok_fJ_reduce hc1 D (by omega)) rfl ?_
    by_cases g2 : ((0 : Int32) < 0 ∨ 1 ≤ ((0 : Int32)).toNatClampNeg)
    · rw [if_pos g2] at h; cases h
    rw [if_neg g2] at h
    refine am_ev_st 4 (f' := (22, [(0, .ref 0), (1, .int p2), (2, .int p3), (3, .ref 38)], [.int (0 : Int32)], (W9 N_1 C E_1 F_1 P Q T G U H B O J V Y Z ((vp_updL O9 ((0 : Int32)).toNatClampNeg r1.toInt64))), k_1, n_1)) (g := True ∧ vp_in ((0 : Int32)) 1 ∧ True ∧ True ∧ True) (by with_unfolding_all rfl) ⟨trivial, g2, trivial, trivial, trivial⟩ ?_
    cases h
    exact am_ev_ret 0 0 0 rfl .int rfl rfl rfl
  · dsimp only at h
    by_cases c3 : e1 = 0
    · rw [if_pos c3] at h
      subst c3
      refine am_ev_catch (.invokevirtual 19) 60 4 621 [.ref 0, .int p2, .int p3] [.int (0 : Int32), .ref 38] rfl rfl rfl rfl (ok_fJ_reduce hc1 D (by omega)) rfl 13 rfl rfl ?_
      refine am_ev_st 2 (f' := (16, [(4, .retAddr 1), (0, .ref 0), (1, .int p2), (2, .int p3), (3, .ref 38)], [.int (1 : Int32)], (W9 N_1 C E_1 F_1 P Q T G U H B O J V Y Z O9), k_1, n_1)) (g := True ∧ True ∧ True) (by with_unfolding_all rfl) ⟨trivial, trivial, trivial⟩ ?_
      cases h
      exact am_ev_ret 0 0 0 rfl .int rfl rfl rfl
    rw [if_neg c3] at h
    by_cases c4 : e1 = 2
    · rw [if_pos c4] at h
      subst c4
      refine am_ev_catch (.invokevirtual 19) 60 4 621 [.ref 0, .int p2, .int p3] [.int (0 : Int32), .ref 38] rfl rfl rfl rfl (ok_fJ_reduce hc1 D (by omega)) rfl 17 rfl rfl ?_
      refine am_ev_st 2 (f' := (20, [(4, .retAddr 1), (0, .ref 0), (1, .int p2), (2, .int p3), (3, .ref 38)], [.int (2 : Int32)], (W9 N_1 C E_1 F_1 P Q T G U H B O J V Y Z O9), k_1, n_1)) (g := True ∧ True ∧ True) (by with_unfolding_all rfl) ⟨trivial, trivial, trivial⟩ ?_
      cases h
      exact am_ev_ret 0 0 0 rfl .int rfl rfl rfl
    rw [if_neg c4] at h
    cases h
def fJ_same (N : cN) (E : cE) (F : cF) (k n : Nat) (p1 p2 p3 : Int32) : Option (((Bool) ⊕ Nat) × cN × cE × cF × (Nat × Nat)) :=
  (fJ_begin N E F k n p1 p2 p3).bind fun z1 =>
  match z1 with
  | (.inl (), N_1, E_1, F_1, (k_1, n_1)) =>
  (none)
  | (.inr e1, N_1, E_1, F_1, (k_1, n_1)) =>
  (some (.inr e1, N_1, E_1, F_1, (k_1, n_1)))
set_option maxHeartbeats 4000000 in
set_option maxRecDepth 100000 in
theorem ok_fJ_same  {N : cN} {C : cC} {E : cE} {F : cF} {P : cP} {Q : cQ} {T : cT} {G : cG} {U : cU} {H : cH} {B : cB} {O : cO} {J : cJ} {V : cV} {Y : cY} {Z : cZ} {O9 : cO9} {k n : Nat} {p1 p2 p3 : Int32} {rv : (Bool) ⊕ Nat} {N' : cN} {E' : cE} {F' : cF} {k' n' : Nat} (h : fJ_same N E F k n p1 p2 p3 = some (rv, N', E', F', (k', n'))) (D : Nat) (hD : 3 ≤ D) : am_Call D 61 [.ref 0, .int p1, .int p2, .int p3] (W9 N C E F P Q T G U H B O J V Y Z O9) k n (am_oB rv, W9 N' C E' F' P Q T G U H B O J V Y Z O9, k', n') := by
  unfold fJ_same at h
  obtain ⟨D, rfl⟩ : ∃ D', D = D' + 1 := ⟨D - 1, by omega⟩
  have hD : 2 ≤ D := by omega
  refine am_call_run (by decide) (by decide) rfl (Nat.le_of_ble_eq_true rfl) (by decide) (L := [(0, .ref 0), (1, .int p1), (2, .int p2), (3, .int p3)]) rfl ?_
  refine am_ev_st 4 (f' := (4, [(0, .ref 0), (1, .int p1), (2, .int p2), (3, .int p3)], [.int p3, .int p2, .int p1, .ref 0], (W9 N C E F P Q T G U H B O J V Y Z O9), k, n)) (g := True ∧ True ∧ True ∧ True ∧ True) (by with_unfolding_all rfl) ⟨trivial, trivial, trivial, trivial, trivial⟩ ?_
  replace h := Option.bind_eq_some_iff.mp h
  obtain ⟨⟨⟨⟩ | e1, N_1, E_1, F_1, ⟨k_1, n_1⟩⟩, hc1, h⟩ := h
  · dsimp only at h
    refine am_ev_call (.invokevirtual 86) 73 6 465 [.ref 0, .int p1, .int p2, .int p3] [] rfl rfl rfl rfl (ok_fJ_begin hc1 D (by omega)) rfl ?_
    cases h
  · dsimp only at h
    cases h
    exact am_ev_callx (.invokevirtual 86) 73 6 465 [.ref 0, .int p1, .int p2, .int p3] [] rfl rfl rfl rfl (ok_fJ_begin hc1 D (by omega)) rfl rfl rfl
def fL_same (N : cN) (E : cE) (F : cF) (O9 : cO9) (k n : Nat) (p2 p3 p4 : Int32) : Option (Int32 × cN × cE × cF × cO9 × (Nat × Nat)) :=
  (fJ_same N E F k n p2 p3 p4).bind fun z1 =>
  match z1 with
  | (.inl r1, N_1, E_1, F_1, (k_1, n_1)) =>
  (if (am_bz r1) = 0 then
  (if ((0 : Int32) < 0 ∨ 1 ≤ ((0 : Int32)).toNatClampNeg) then none else
  some ((0 : Int32), N_1, E_1, F_1, ((vp_updL O9 ((0 : Int32)).toNatClampNeg 0)), (k_1, n_1)))
  else
  if ((0 : Int32) < 0 ∨ 1 ≤ ((0 : Int32)).toNatClampNeg) then none else
  some ((0 : Int32), N_1, E_1, F_1, ((vp_updL O9 ((0 : Int32)).toNatClampNeg 1)), (k_1, n_1)))
  | (.inr e1, N_1, E_1, F_1, (k_1, n_1)) =>
  (if e1 = 0 then
  (some ((1 : Int32), N_1, E_1, F_1, O9, (k_1, n_1)))
  else
  if e1 = 2 then
  (some ((2 : Int32), N_1, E_1, F_1, O9, (k_1, n_1)))
  else
  none)
set_option maxHeartbeats 4000000 in
set_option maxRecDepth 100000 in
theorem ok_fL_same  {N : cN} {C : cC} {E : cE} {F : cF} {P : cP} {Q : cQ} {T : cT} {G : cG} {U : cU} {H : cH} {B : cB} {O : cO} {J : cJ} {V : cV} {Y : cY} {Z : cZ} {O9 : cO9} {k n : Nat} {p2 p3 p4 : Int32} {rv : Int32} {N' : cN} {E' : cE} {F' : cF} {O9' : cO9} {k' n' : Nat} (h : fL_same N E F O9 k n p2 p3 p4 = some (rv, N', E', F', O9', (k', n'))) (D : Nat) (hD : 4 ≤ D) : am_Call D 128 [.ref 0, .int p2, .int p3, .int p4, .ref 38] (W9 N C E F P Q T G U H B O J V Y Z O9) k n (.inl (some (.int rv)), W9 N' C E' F' P Q T G U H B O J V Y Z O9', k', n') := by
  unfold fL_same at h
  obtain ⟨D, rfl⟩ : ∃ D', D = D' + 1 := ⟨D - 1, by omega⟩
  have hD : 3 ≤ D := by omega
  refine am_call_run (by decide) (by decide) rfl (Nat.le_of_ble_eq_true rfl) (by decide) (L := [(0, .ref 0), (1, .int p2), (2, .int p3), (3, .int p4), (4, .ref 38)]) rfl ?_
  refine am_ev_st 6 (f' := (7, [(0, .ref 0), (1, .int p2), (2, .int p3), (3, .int p4), (4, .ref 38)], [.int p4, .int p3, .int p2, .ref 0, .int (0 : Int32), .ref 38], (W9 N C E F P Q T G U H B O J V Y Z O9), k, n)) (g := True ∧ True ∧ True ∧ True ∧ True ∧ True ∧ True) (by with_unfolding_all rfl) ⟨trivial, trivial, trivial, trivial, trivial, trivial, trivial⟩ ?_
  replace h := Option.bind_eq_some_iff.mp h
  obtain ⟨⟨r1 | e1, N_1, E_1, F_1, ⟨k_1, n_1⟩⟩, hc1, h⟩ := h
  · dsimp only at h
    refine am_ev_call (.invokevirtual 22) 61 6 629 [.ref 0, .int p2, .int p3, .int p4] [.int (0 : Int32), .ref 38] rfl rfl rfl rfl (ok_fJ_same hc1 D (by omega)) rfl ?_
    refine am_ev_st 1 (f' := am_br ((am_bz r1) = 0) 17 10 [(0, .ref 0), (1, .int p2), (2, .int p3), (3, .int p4), (4, .ref 38)] [.int (0 : Int32), .ref 38] (W9 N_1 C E_1 F_1 P Q T G U H B O J V Y Z O9) k_1 n_1) (g := True ∧ True) (by with_unfolding_all rfl) ⟨trivial, trivial⟩ ?_
    by_cases c2 : (am_bz r1) = 0
    · rw [if_pos c2] at h
      refine am_ev_pos c2 ?_
      by_cases g3 : ((0 : Int32) < 0 ∨ 1 ≤ ((0 : Int32)).toNatClampNeg)
      · rw [if_pos g3] at h; cases h
      rw [if_neg g3] at h
      refine am_ev_st 4 (f' := (31, [(0, .ref 0), (1, .int p2), (2, .int p3), (3, .int p4), (4, .ref 38)], [.int (0 : Int32)], (W9 N_1 C E_1 F_1 P Q T G U H B O J V Y Z ((vp_updL O9 ((0 : Int32)).toNatClampNeg 0))), k_1, n_1)) (g := True ∧ vp_in ((0 : Int32)) 1 ∧ True ∧ True ∧ True) (by with_unfolding_all rfl) ⟨trivial, g3, trivial, trivial, trivial⟩ ?_
      cases h
      exact am_ev_ret 0 0 0 rfl .int rfl rfl rfl
    · rw [if_neg c2] at h
      refine am_ev_neg c2 ?_
      by_cases g4 : ((0 : Int32) < 0 ∨ 1 ≤ ((0 : Int32)).toNatClampNeg)
      · rw [if_pos g4] at h; cases h
      rw [if_neg g4] at h
      refine am_ev_st 5 (f' := (31, [(0, .ref 0), (1, .int p2), (2, .int p3), (3, .int p4), (4, .ref 38)], [.int (0 : Int32)], (W9 N_1 C E_1 F_1 P Q T G U H B O J V Y Z ((vp_updL O9 ((0 : Int32)).toNatClampNeg 1))), k_1, n_1)) (g := True ∧ True ∧ vp_in ((0 : Int32)) 1 ∧ True ∧ True ∧ True) (by with_unfolding_all rfl) ⟨trivial, trivial, g4, trivial, trivial, trivial⟩ ?_
      cases h
      exact am_ev_ret 0 0 0 rfl .int rfl rfl rfl
  · dsimp only at h
    by_cases c5 : e1 = 0
    · rw [if_pos c5] at h
      subst c5
      refine am_ev_catch (.invokevirtual 22) 61 6 629 [.ref 0, .int p2, .int p3, .int p4] [.int (0 : Int32), .ref 38] rfl rfl rfl rfl (ok_fJ_same hc1 D (by omega)) rfl 22 rfl rfl ?_
      refine am_ev_st 2 (f' := (25, [(5, .retAddr 1), (0, .ref 0), (1, .int p2), (2, .int p3), (3, .int p4), (4, .ref 38)], [.int (1 : Int32)], (W9 N_1 C E_1 F_1 P Q T G U H B O J V Y Z O9), k_1, n_1)) (g := True ∧ True ∧ True) (by with_unfolding_all rfl) ⟨trivial, trivial, trivial⟩ ?_
      cases h
      exact am_ev_ret 0 0 0 rfl .int rfl rfl rfl
    rw [if_neg c5] at h
    by_cases c6 : e1 = 2
    · rw [if_pos c6] at h
      subst c6
      refine am_ev_catch (.invokevirtual 22) 61 6 629 [.ref 0, .int p2, .int p3, .int p4] [.int (0 : Int32), .ref 38] rfl rfl rfl rfl (ok_fJ_same hc1 D (by omega)) rfl 26 rfl rfl ?_
      refine am_ev_st 2 (f' := (29, [(5, .retAddr 1), (0, .ref 0), (1, .int p2), (2, .int p3), (3, .int p4), (4, .ref 38)], [.int (2 : Int32)], (W9 N_1 C E_1 F_1 P Q T G U H B O J V Y Z O9), k_1, n_1)) (g := True ∧ True ∧ True) (by with_unfolding_all rfl) ⟨trivial, trivial, trivial⟩ ?_
      cases h
      exact am_ev_ret 0 0 0 rfl .int rfl rfl rfl
    rw [if_neg c6] at h
    cases h
def fJ_check (N : cN) (E : cE) (F : cF) (k n : Nat) (p1 p2 p3 : Int32) : Option (((Bool) ⊕ Nat) × cN × cE × cF × (Nat × Nat)) :=
  (fJ_begin N E F k n p1 p2 p3).bind fun z1 =>
  match z1 with
  | (.inl (), N_1, E_1, F_1, (k_1, n_1)) =>
  (none)
  | (.inr e1, N_1, E_1, F_1, (k_1, n_1)) =>
  (some (.inr e1, N_1, E_1, F_1, (k_1, n_1)))
set_option maxHeartbeats 4000000 in
set_option maxRecDepth 100000 in
theorem ok_fJ_check  {N : cN} {C : cC} {E : cE} {F : cF} {P : cP} {Q : cQ} {T : cT} {G : cG} {U : cU} {H : cH} {B : cB} {O : cO} {J : cJ} {V : cV} {Y : cY} {Z : cZ} {O9 : cO9} {k n : Nat} {p1 p2 p3 : Int32} {rv : (Bool) ⊕ Nat} {N' : cN} {E' : cE} {F' : cF} {k' n' : Nat} (h : fJ_check N E F k n p1 p2 p3 = some (rv, N', E', F', (k', n'))) (D : Nat) (hD : 3 ≤ D) : am_Call D 62 [.ref 0, .int p1, .int p2, .int p3] (W9 N C E F P Q T G U H B O J V Y Z O9) k n (am_oB rv, W9 N' C E' F' P Q T G U H B O J V Y Z O9, k', n') := by
  unfold fJ_check at h
  obtain ⟨D, rfl⟩ : ∃ D', D = D' + 1 := ⟨D - 1, by omega⟩
  have hD : 2 ≤ D := by omega
  refine am_call_run (by decide) (by decide) rfl (Nat.le_of_ble_eq_true rfl) (by decide) (L := [(0, .ref 0), (1, .int p1), (2, .int p2), (3, .int p3)]) rfl ?_
  refine am_ev_st 4 (f' := (4, [(0, .ref 0), (1, .int p1), (2, .int p2), (3, .int p3)], [.int p3, .int p2, .int p1, .ref 0], (W9 N C E F P Q T G U H B O J V Y Z O9), k, n)) (g := True ∧ True ∧ True ∧ True ∧ True) (by with_unfolding_all rfl) ⟨trivial, trivial, trivial, trivial, trivial⟩ ?_
  replace h := Option.bind_eq_some_iff.mp h
  obtain ⟨⟨⟨⟩ | e1, N_1, E_1, F_1, ⟨k_1, n_1⟩⟩, hc1, h⟩ := h
  · dsimp only at h
    refine am_ev_call (.invokevirtual 86) 73 6 465 [.ref 0, .int p1, .int p2, .int p3] [] rfl rfl rfl rfl (ok_fJ_begin hc1 D (by omega)) rfl ?_
    cases h
  · dsimp only at h
    cases h
    exact am_ev_callx (.invokevirtual 86) 73 6 465 [.ref 0, .int p1, .int p2, .int p3] [] rfl rfl rfl rfl (ok_fJ_begin hc1 D (by omega)) rfl rfl rfl
def fL_check (N : cN) (E : cE) (F : cF) (O9 : cO9) (k n : Nat) (p2 p3 p4 : Int32) : Option (Int32 × cN × cE × cF × cO9 × (Nat × Nat)) :=
  (fJ_check N E F k n p2 p3 p4).bind fun z1 =>
  match z1 with
  | (.inl r1, N_1, E_1, F_1, (k_1, n_1)) =>
  (if (am_bz r1) = 0 then
  (if ((0 : Int32) < 0 ∨ 1 ≤ ((0 : Int32)).toNatClampNeg) then none else
  some ((0 : Int32), N_1, E_1, F_1, ((vp_updL O9 ((0 : Int32)).toNatClampNeg 0)), (k_1, n_1)))
  else
  if ((0 : Int32) < 0 ∨ 1 ≤ ((0 : Int32)).toNatClampNeg) then none else
  some ((0 : Int32), N_1, E_1, F_1, ((vp_updL O9 ((0 : Int32)).toNatClampNeg 1)), (k_1, n_1)))
  | (.inr e1, N_1, E_1, F_1, (k_1, n_1)) =>
  (if e1 = 0 then
  (some ((1 : Int32), N_1, E_1, F_1, O9, (k_1, n_1)))
  else
  if e1 = 1 then
  (some ((2 : Int32), N_1, E_1, F_1, O9, (k_1, n_1)))
  else
  if e1 = 2 then
  (some ((3 : Int32), N_1, E_1, F_1, O9, (k_1, n_1)))
  else
  none)
set_option maxHeartbeats 4000000 in
set_option maxRecDepth 100000 in
theorem ok_fL_check  {N : cN} {C : cC} {E : cE} {F : cF} {P : cP} {Q : cQ} {T : cT} {G : cG} {U : cU} {H : cH} {B : cB} {O : cO} {J : cJ} {V : cV} {Y : cY} {Z : cZ} {O9 : cO9} {k n : Nat} {p2 p3 p4 : Int32} {rv : Int32} {N' : cN} {E' : cE} {F' : cF} {O9' : cO9} {k' n' : Nat} (h : fL_check N E F O9 k n p2 p3 p4 = some (rv, N', E', F', O9', (k', n'))) (D : Nat) (hD : 4 ≤ D) : am_Call D 129 [.ref 0, .int p2, .int p3, .int p4, .ref 38] (W9 N C E F P Q T G U H B O J V Y Z O9) k n (.inl (some (.int rv)), W9 N' C E' F' P Q T G U H B O J V Y Z O9', k', n') := by
  unfold fL_check at h
  obtain ⟨D, rfl⟩ : ∃ D', D = D' + 1 := ⟨D - 1, by omega⟩
  have hD : 3 ≤ D := by omega
  refine am_call_run (by decide) (by decide) rfl (Nat.le_of_ble_eq_true rfl) (by decide) (L := [(0, .ref 0), (1, .int p2), (2, .int p3), (3, .int p4), (4, .ref 38)]) rfl ?_
  refine am_ev_st 6 (f' := (7, [(0, .ref 0), (1, .int p2), (2, .int p3), (3, .int p4), (4, .ref 38)], [.int p4, .int p3, .int p2, .ref 0, .int (0 : Int32), .ref 38], (W9 N C E F P Q T G U H B O J V Y Z O9), k, n)) (g := True ∧ True ∧ True ∧ True ∧ True ∧ True ∧ True) (by with_unfolding_all rfl) ⟨trivial, trivial, trivial, trivial, trivial, trivial, trivial⟩ ?_
  replace h := Option.bind_eq_some_iff.mp h
  obtain ⟨⟨r1 | e1, N_1, E_1, F_1, ⟨k_1, n_1⟩⟩, hc1, h⟩ := h
  · dsimp only at h
    refine am_ev_call (.invokevirtual 26) 62 6 637 [.ref 0, .int p2, .int p3, .int p4] [.int (0 : Int32), .ref 38] rfl rfl rfl rfl (ok_fJ_check hc1 D (by omega)) rfl ?_
    refine am_ev_st 1 (f' := am_br ((am_bz r1) = 0) 17 10 [(0, .ref 0), (1, .int p2), (2, .int p3), (3, .int p4), (4, .ref 38)] [.int (0 : Int32), .ref 38] (W9 N_1 C E_1 F_1 P Q T G U H B O J V Y Z O9) k_1 n_1) (g := True ∧ True) (by with_unfolding_all rfl) ⟨trivial, trivial⟩ ?_
    by_cases c2 : (am_bz r1) = 0
    · rw [if_pos c2] at h
      refine am_ev_pos c2 ?_
      by_cases g3 : ((0 : Int32) < 0 ∨ 1 ≤ ((0 : Int32)).toNatClampNeg)
      · rw [if_pos g3] at h; cases h
      rw [if_neg g3] at h
      refine am_ev_st 4 (f' := (35, [(0, .ref 0), (1, .int p2), (2, .int p3), (3, .int p4), (4, .ref 38)], [.int (0 : Int32)], (W9 N_1 C E_1 F_1 P Q T G U H B O J V Y Z ((vp_updL O9 ((0 : Int32)).toNatClampNeg 0))), k_1, n_1)) (g := True ∧ vp_in ((0 : Int32)) 1 ∧ True ∧ True ∧ True) (by with_unfolding_all rfl) ⟨trivial, g3, trivial, trivial, trivial⟩ ?_
      cases h
      exact am_ev_ret 0 0 0 rfl .int rfl rfl rfl
    · rw [if_neg c2] at h
      refine am_ev_neg c2 ?_
      by_cases g4 : ((0 : Int32) < 0 ∨ 1 ≤ ((0 : Int32)).toNatClampNeg)
      · rw [if_pos g4] at h; cases h
      rw [if_neg g4] at h
      refine am_ev_st 5 (f' := (35, [(0, .ref 0), (1, .int p2), (2, .int p3), (3, .int p4), (4, .ref 38)], [.int (0 : Int32)], (W9 N_1 C E_1 F_1 P Q T G U H B O J V Y Z ((vp_updL O9 ((0 : Int32)).toNatClampNeg 1))), k_1, n_1)) (g := True ∧ True ∧ vp_in ((0 : Int32)) 1 ∧ True ∧ True ∧ True) (by with_unfolding_all rfl) ⟨trivial, trivial, g4, trivial, trivial, trivial⟩ ?_
      cases h
      exact am_ev_ret 0 0 0 rfl .int rfl rfl rfl
  · dsimp only at h
    by_cases c5 : e1 = 0
    · rw [if_pos c5] at h
      subst c5
      refine am_ev_catch (.invokevirtual 26) 62 6 637 [.ref 0, .int p2, .int p3, .int p4] [.int (0 : Int32), .ref 38] rfl rfl rfl rfl (ok_fJ_check hc1 D (by omega)) rfl 22 rfl rfl ?_
      refine am_ev_st 2 (f' := (25, [(5, .retAddr 1), (0, .ref 0), (1, .int p2), (2, .int p3), (3, .int p4), (4, .ref 38)], [.int (1 : Int32)], (W9 N_1 C E_1 F_1 P Q T G U H B O J V Y Z O9), k_1, n_1)) (g := True ∧ True ∧ True) (by with_unfolding_all rfl) ⟨trivial, trivial, trivial⟩ ?_
      cases h
      exact am_ev_ret 0 0 0 rfl .int rfl rfl rfl
    rw [if_neg c5] at h
    by_cases c6 : e1 = 1
    · rw [if_pos c6] at h
      subst c6
      refine am_ev_catch (.invokevirtual 26) 62 6 637 [.ref 0, .int p2, .int p3, .int p4] [.int (0 : Int32), .ref 38] rfl rfl rfl rfl (ok_fJ_check hc1 D (by omega)) rfl 26 rfl rfl ?_
      refine am_ev_st 2 (f' := (29, [(5, .retAddr 1), (0, .ref 0), (1, .int p2), (2, .int p3), (3, .int p4), (4, .ref 38)], [.int (2 : Int32)], (W9 N_1 C E_1 F_1 P Q T G U H B O J V Y Z O9), k_1, n_1)) (g := True ∧ True ∧ True) (by with_unfolding_all rfl) ⟨trivial, trivial, trivial⟩ ?_
      cases h
      exact am_ev_ret 0 0 0 rfl .int rfl rfl rfl
    rw [if_neg c6] at h
    by_cases c7 : e1 = 2
    · rw [if_pos c7] at h
      subst c7
      refine am_ev_catch (.invokevirtual 26) 62 6 637 [.ref 0, .int p2, .int p3, .int p4] [.int (0 : Int32), .ref 38] rfl rfl rfl rfl (ok_fJ_check hc1 D (by omega)) rfl 30 rfl rfl ?_
      refine am_ev_st 2 (f' := (33, [(5, .retAddr 1), (0, .ref 0), (1, .int p2), (2, .int p3), (3, .int p4), (4, .ref 38)], [.int (3 : Int32)], (W9 N_1 C E_1 F_1 P Q T G U H B O J V Y Z O9), k_1, n_1)) (g := True ∧ True ∧ True) (by with_unfolding_all rfl) ⟨trivial, trivial, trivial⟩ ?_
      cases h
      exact am_ev_ret 0 0 0 rfl .int rfl rfl rfl
    rw [if_neg c7] at h
    cases h
def fC_isFull (C : cC) : Option (Bool) :=
  match C with
  | (ct, cb, cm) =>
  if cm < (16 : Int32) then
  (some false)
  else
  some true
set_option maxHeartbeats 4000000 in
set_option maxRecDepth 100000 in
theorem ok_fC_isFull  {N : cN} {C : cC} {E : cE} {F : cF} {P : cP} {Q : cQ} {T : cT} {G : cG} {U : cU} {H : cH} {B : cB} {O : cO} {J : cJ} {V : cV} {Y : cY} {Z : cZ} {O9 : cO9} {k n : Nat} {rv : Bool} (h : fC_isFull C = some rv) (D : Nat) (hD : 1 ≤ D) : am_Call D 2 [.ref 7] (W9 N C E F P Q T G U H B O J V Y Z O9) k n (.inl (some (.int (am_bz rv))), W9 N C E F P Q T G U H B O J V Y Z O9, k, n) := by
  unfold fC_isFull at h
  obtain ⟨D, rfl⟩ : ∃ D', D = D' + 1 := ⟨D - 1, by omega⟩
  have hD : 0 ≤ D := by omega
  refine am_call_run (by decide) (by decide) rfl (Nat.le_of_ble_eq_true rfl) (by decide) (L := [(0, .ref 7)]) rfl ?_
  obtain ⟨ct, cb, cm⟩ := C
  try dsimp only at h
  refine am_ev_st 4 (f' := am_br (cm < (16 : Int32)) 13 6 [(0, .ref 7)] [] (W9 N (ct, cb, cm) E F P Q T G U H B O J V Y Z O9) k n) (g := True ∧ True ∧ True ∧ True ∧ True) (by with_unfolding_all rfl) ⟨trivial, trivial, trivial, trivial, trivial⟩ ?_
  by_cases c1 : cm < (16 : Int32)
  · rw [if_pos c1] at h
    refine am_ev_pos c1 ?_
    refine am_ev_st 1 (f' := (14, [(0, .ref 7)], [.int (0 : Int32)], (W9 N (ct, cb, cm) E F P Q T G U H B O J V Y Z O9), k, n)) (g := True ∧ True) (by with_unfolding_all rfl) ⟨trivial, trivial⟩ ?_
    cases h
    exact am_ev_ret 0 0 0 rfl .boolean rfl am_n0 rfl
  · rw [if_neg c1] at h
    refine am_ev_neg c1 ?_
    refine am_ev_st 2 (f' := (14, [(0, .ref 7)], [.int (1 : Int32)], (W9 N (ct, cb, cm) E F P Q T G U H B O J V Y Z O9), k, n)) (g := True ∧ True ∧ True) (by with_unfolding_all rfl) ⟨trivial, trivial, trivial⟩ ?_
    cases h
    exact am_ev_ret 0 0 0 rfl .boolean rfl am_n1 rfl
def fJ_refuseUnlooked (E : cE) : Option (Int32 × cE) :=
  (fE_refuel E (0 : Int32)).bind fun z1 =>
  match z1 with
  | (E_1) =>
  some ((-1 : Int32), E_1)
set_option maxHeartbeats 4000000 in
set_option maxRecDepth 100000 in
theorem ok_fJ_refuseUnlooked  {N : cN} {C : cC} {E : cE} {F : cF} {P : cP} {Q : cQ} {T : cT} {G : cG} {U : cU} {H : cH} {B : cB} {O : cO} {J : cJ} {V : cV} {Y : cY} {Z : cZ} {O9 : cO9} {k n : Nat} {rv : Int32} {E' : cE} (h : fJ_refuseUnlooked E = some (rv, E')) (D : Nat) (hD : 2 ≤ D) : am_Call D 74 [.ref 0] (W9 N C E F P Q T G U H B O J V Y Z O9) k n (.inl (some (.int rv)), W9 N C E' F P Q T G U H B O J V Y Z O9, k, n) := by
  unfold fJ_refuseUnlooked at h
  obtain ⟨D, rfl⟩ : ∃ D', D = D' + 1 := ⟨D - 1, by omega⟩
  have hD : 1 ≤ D := by omega
  refine am_call_run (by decide) (by decide) rfl (Nat.le_of_ble_eq_true rfl) (by decide) (L := [(0, .ref 0)]) rfl ?_
  refine am_ev_st 3 (f' := (5, [(0, .ref 0)], [.int (0 : Int32), .ref 10], (W9 N C E F P Q T G U H B O J V Y Z O9), k, n)) (g := True ∧ True ∧ True ∧ True) (by with_unfolding_all rfl) ⟨trivial, trivial, trivial, trivial⟩ ?_
  replace h := Option.bind_eq_some_iff.mp h
  obtain ⟨E_1, hc1, h⟩ := h
  try dsimp only at h
  refine am_ev_call (.invokevirtual 167) 46 2 489 [.ref 10, .int (0 : Int32)] [] rfl rfl rfl rfl (ok_fE_refuel hc1 D (by omega)) rfl ?_
  refine am_ev_st 1 (f' := (9, [(0, .ref 0)], [.int (-1 : Int32)], (W9 N C E_1 F P Q T G U H B O J V Y Z O9), k, n)) (g := True ∧ True) (by with_unfolding_all rfl) ⟨trivial, trivial⟩ ?_
  cases h
  exact am_ev_ret 0 0 0 rfl .int rfl rfl rfl
def fJ_declare (N : cN) (C : cC) (E : cE) (F : cF) (k n : Nat) (p1 p2 : Int32) : Option (((Int32) ⊕ Nat) × cN × cE × cF × (Nat × Nat)) :=
  (fC_isFull C).bind fun z1 =>
  match z1 with
  | (r1) =>
  if (am_bz r1) = 0 then
  ((fJ_begin N E F k n p1 p1 p2).bind fun z3 =>
  match z3 with
  | (.inl (), N_3, E_3, F_3, (k_3, n_3)) =>
  (none)
  | (.inr e3, N_3, E_3, F_3, (k_3, n_3)) =>
  (some (.inr e3, N_3, E_3, F_3, (k_3, n_3))))
  else
  (fJ_refuseUnlooked E).bind fun z4 =>
  match z4 with
  | (r4, E_4) =>
  some (.inl r4, N, E_4, F, (k, n))
set_option maxHeartbeats 4000000 in
set_option maxRecDepth 100000 in
theorem ok_fJ_declare  {N : cN} {C : cC} {E : cE} {F : cF} {P : cP} {Q : cQ} {T : cT} {G : cG} {U : cU} {H : cH} {B : cB} {O : cO} {J : cJ} {V : cV} {Y : cY} {Z : cZ} {O9 : cO9} {k n : Nat} {p1 p2 : Int32} {rv : (Int32) ⊕ Nat} {N' : cN} {E' : cE} {F' : cF} {k' n' : Nat} (h : fJ_declare N C E F k n p1 p2 = some (rv, N', E', F', (k', n'))) (D : Nat) (hD : 3 ≤ D) : am_Call D 63 [.ref 0, .int p1, .int p2] (W9 N C E F P Q T G U H B O J V Y Z O9) k n (am_oI rv, W9 N' C E' F' P Q T G U H B O J V Y Z O9, k', n') := by
  unfold fJ_declare at h
  obtain ⟨D, rfl⟩ : ∃ D', D = D' + 1 := ⟨D - 1, by omega⟩
  have hD : 2 ≤ D := by omega
  refine am_call_run (by decide) (by decide) rfl (Nat.le_of_ble_eq_true rfl) (by decide) (L := [(0, .ref 0), (1, .int p1), (2, .int p2)]) rfl ?_
  refine am_ev_st 2 (f' := (4, [(0, .ref 0), (1, .int p1), (2, .int p2)], [.ref 7], (W9 N C E F P Q T G U H B O J V Y Z O9), k, n)) (g := True ∧ True ∧ True) (by with_unfolding_all rfl) ⟨trivial, trivial, trivial⟩ ?_
  replace h := Option.bind_eq_some_iff.mp h
  obtain ⟨r1, hc1, h⟩ := h
  try dsimp only at h
  refine am_ev_call (.invokevirtual 107) 2 0 649 [.ref 7] [] rfl rfl rfl rfl (ok_fC_isFull hc1 D (by omega)) rfl ?_
  refine am_ev_st 1 (f' := am_br ((am_bz r1) = 0) 15 7 [(0, .ref 0), (1, .int p1), (2, .int p2)] [] (W9 N C E F P Q T G U H B O J V Y Z O9) k n) (g := True ∧ True) (by with_unfolding_all rfl) ⟨trivial, trivial⟩ ?_
  by_cases c2 : (am_bz r1) = 0
  · rw [if_pos c2] at h
    refine am_ev_pos c2 ?_
    refine am_ev_st 4 (f' := (19, [(0, .ref 0), (1, .int p1), (2, .int p2)], [.int p2, .int p1, .int p1, .ref 0], (W9 N C E F P Q T G U H B O J V Y Z O9), k, n)) (g := True ∧ True ∧ True ∧ True ∧ True) (by with_unfolding_all rfl) ⟨trivial, trivial, trivial, trivial, trivial⟩ ?_
    replace h := Option.bind_eq_some_iff.mp h
    obtain ⟨⟨⟨⟩ | e3, N_3, E_3, F_3, ⟨k_3, n_3⟩⟩, hc3, h⟩ := h
    · dsimp only at h
      refine am_ev_call (.invokevirtual 86) 73 6 465 [.ref 0, .int p1, .int p1, .int p2] [] rfl rfl rfl rfl (ok_fJ_begin hc3 D (by omega)) rfl ?_
      cases h
    · dsimp only at h
      cases h
      exact am_ev_callx (.invokevirtual 86) 73 6 465 [.ref 0, .int p1, .int p1, .int p2] [] rfl rfl rfl rfl (ok_fJ_begin hc3 D (by omega)) rfl rfl rfl
  · rw [if_neg c2] at h
    refine am_ev_neg c2 ?_
    refine am_ev_st 1 (f' := (11, [(0, .ref 0), (1, .int p1), (2, .int p2)], [.ref 0], (W9 N C E F P Q T G U H B O J V Y Z O9), k, n)) (g := True ∧ True) (by with_unfolding_all rfl) ⟨trivial, trivial⟩ ?_
    replace h := Option.bind_eq_some_iff.mp h
    obtain ⟨⟨r4, E_4⟩, hc4, h⟩ := h
    try dsimp only at h
    refine am_ev_call (.invokevirtual 111) 74 0 653 [.ref 0] [] rfl rfl rfl rfl (ok_fJ_refuseUnlooked hc4 D (by omega)) rfl ?_
    cases h
    exact am_ev_ret 0 0 0 rfl .int rfl rfl rfl
def fL_declare (N : cN) (C : cC) (E : cE) (F : cF) (O9 : cO9) (k n : Nat) (p2 p3 : Int32) : Option (Int32 × cN × cE × cF × cO9 × (Nat × Nat)) :=
  (fJ_declare N C E F k n p2 p3).bind fun z1 =>
  match z1 with
  | (.inl r1, N_1, E_1, F_1, (k_1, n_1)) =>
  (if ((0 : Int32) < 0 ∨ 1 ≤ ((0 : Int32)).toNatClampNeg) then none else
  some ((0 : Int32), N_1, E_1, F_1, ((vp_updL O9 ((0 : Int32)).toNatClampNeg r1.toInt64)), (k_1, n_1)))
  | (.inr e1, N_1, E_1, F_1, (k_1, n_1)) =>
  (if e1 = 0 then
  (some ((1 : Int32), N_1, E_1, F_1, O9, (k_1, n_1)))
  else
  if e1 = 1 then
  (some ((2 : Int32), N_1, E_1, F_1, O9, (k_1, n_1)))
  else
  if e1 = 2 then
  (some ((3 : Int32), N_1, E_1, F_1, O9, (k_1, n_1)))
  else
  none)
set_option maxHeartbeats 4000000 in
set_option maxRecDepth 100000 in
theorem ok_fL_declare  {N : cN} {C : cC} {E : cE} {F : cF} {P : cP} {Q : cQ} {T : cT} {G : cG} {U : cU} {H : cH} {B : cB} {O : cO} {J : cJ} {V : cV} {Y : cY} {Z : cZ} {O9 : cO9} {k n : Nat} {p2 p3 : Int32} {rv : Int32} {N' : cN} {E' : cE} {F' : cF} {O9' : cO9} {k' n' : Nat} (h : fL_declare N C E F O9 k n p2 p3 = some (rv, N', E', F', O9', (k', n'))) (D : Nat) (hD : 4 ≤ D) : am_Call D 130 [.ref 0, .int p2, .int p3, .ref 38] (W9 N C E F P Q T G U H B O J V Y Z O9) k n (.inl (some (.int rv)), W9 N' C E' F' P Q T G U H B O J V Y Z O9', k', n') := by
  unfold fL_declare at h
  obtain ⟨D, rfl⟩ : ∃ D', D = D' + 1 := ⟨D - 1, by omega⟩
  have hD : 3 ≤ D := by omega
  refine am_call_run (by decide) (by decide) rfl (Nat.le_of_ble_eq_true rfl) (by decide) (L := [(0, .ref 0), (1, .int p2), (2, .int p3), (3, .ref 38)]) rfl ?_
  refine am_ev_st 5 (f' := (5, [(0, .ref 0), (1, .int p2), (2, .int p3), (3, .ref 38)], [.int p3, .int p2, .ref 0, .int (0 : Int32), .ref 38], (W9 N C E F P Q T G U H B O J V Y Z O9), k, n)) (g := True ∧ True ∧ True ∧ True ∧ True ∧ True) (by with_unfolding_all rfl) ⟨trivial, trivial, trivial, trivial, trivial, trivial⟩ ?_
  replace h := Option.bind_eq_some_iff.mp h
  obtain ⟨⟨r1 | e1, N_1, E_1, F_1, ⟨k_1, n_1⟩⟩, hc1, h⟩ := h
  · dsimp only at h
    refine am_ev_call (.invokevirtual 29) 63 4 645 [.ref 0, .int p2, .int p3] [.int (0 : Int32), .ref 38] rfl rfl rfl rfl (ok_fJ_declare hc1 D (by omega)) rfl ?_
    by_cases g2 : ((0 : Int32) < 0 ∨ 1 ≤ ((0 : Int32)).toNatClampNeg)
    · rw [if_pos g2] at h; cases h
    rw [if_neg g2] at h
    refine am_ev_st 4 (f' := (26, [(0, .ref 0), (1, .int p2), (2, .int p3), (3, .ref 38)], [.int (0 : Int32)], (W9 N_1 C E_1 F_1 P Q T G U H B O J V Y Z ((vp_updL O9 ((0 : Int32)).toNatClampNeg r1.toInt64))), k_1, n_1)) (g := True ∧ vp_in ((0 : Int32)) 1 ∧ True ∧ True ∧ True) (by with_unfolding_all rfl) ⟨trivial, g2, trivial, trivial, trivial⟩ ?_
    cases h
    exact am_ev_ret 0 0 0 rfl .int rfl rfl rfl
  · dsimp only at h
    by_cases c3 : e1 = 0
    · rw [if_pos c3] at h
      subst c3
      refine am_ev_catch (.invokevirtual 29) 63 4 645 [.ref 0, .int p2, .int p3] [.int (0 : Int32), .ref 38] rfl rfl rfl rfl (ok_fJ_declare hc1 D (by omega)) rfl 13 rfl rfl ?_
      refine am_ev_st 2 (f' := (16, [(4, .retAddr 1), (0, .ref 0), (1, .int p2), (2, .int p3), (3, .ref 38)], [.int (1 : Int32)], (W9 N_1 C E_1 F_1 P Q T G U H B O J V Y Z O9), k_1, n_1)) (g := True ∧ True ∧ True) (by with_unfolding_all rfl) ⟨trivial, trivial, trivial⟩ ?_
      cases h
      exact am_ev_ret 0 0 0 rfl .int rfl rfl rfl
    rw [if_neg c3] at h
    by_cases c4 : e1 = 1
    · rw [if_pos c4] at h
      subst c4
      refine am_ev_catch (.invokevirtual 29) 63 4 645 [.ref 0, .int p2, .int p3] [.int (0 : Int32), .ref 38] rfl rfl rfl rfl (ok_fJ_declare hc1 D (by omega)) rfl 17 rfl rfl ?_
      refine am_ev_st 2 (f' := (20, [(4, .retAddr 1), (0, .ref 0), (1, .int p2), (2, .int p3), (3, .ref 38)], [.int (2 : Int32)], (W9 N_1 C E_1 F_1 P Q T G U H B O J V Y Z O9), k_1, n_1)) (g := True ∧ True ∧ True) (by with_unfolding_all rfl) ⟨trivial, trivial, trivial⟩ ?_
      cases h
      exact am_ev_ret 0 0 0 rfl .int rfl rfl rfl
    rw [if_neg c4] at h
    by_cases c5 : e1 = 2
    · rw [if_pos c5] at h
      subst c5
      refine am_ev_catch (.invokevirtual 29) 63 4 645 [.ref 0, .int p2, .int p3] [.int (0 : Int32), .ref 38] rfl rfl rfl rfl (ok_fJ_declare hc1 D (by omega)) rfl 21 rfl rfl ?_
      refine am_ev_st 2 (f' := (24, [(4, .retAddr 1), (0, .ref 0), (1, .int p2), (2, .int p3), (3, .ref 38)], [.int (3 : Int32)], (W9 N_1 C E_1 F_1 P Q T G U H B O J V Y Z O9), k_1, n_1)) (g := True ∧ True ∧ True) (by with_unfolding_all rfl) ⟨trivial, trivial, trivial⟩ ?_
      cases h
      exact am_ev_ret 0 0 0 rfl .int rfl rfl rfl
    rw [if_neg c5] at h
    cases h
def fJ_define (N : cN) (C : cC) (E : cE) (F : cF) (k n : Nat) (p1 p2 : Int32) : Option (((Int32) ⊕ Nat) × cN × cE × cF × (Nat × Nat)) :=
  (fC_isFull C).bind fun z1 =>
  match z1 with
  | (r1) =>
  if (am_bz r1) = 0 then
  ((fJ_begin N E F k n p1 p1 p2).bind fun z3 =>
  match z3 with
  | (.inl (), N_3, E_3, F_3, (k_3, n_3)) =>
  (none)
  | (.inr e3, N_3, E_3, F_3, (k_3, n_3)) =>
  (some (.inr e3, N_3, E_3, F_3, (k_3, n_3))))
  else
  (fJ_refuseUnlooked E).bind fun z4 =>
  match z4 with
  | (r4, E_4) =>
  some (.inl r4, N, E_4, F, (k, n))
set_option maxHeartbeats 4000000 in
set_option maxRecDepth 100000 in
theorem ok_fJ_define  {N : cN} {C : cC} {E : cE} {F : cF} {P : cP} {Q : cQ} {T : cT} {G : cG} {U : cU} {H : cH} {B : cB} {O : cO} {J : cJ} {V : cV} {Y : cY} {Z : cZ} {O9 : cO9} {k n : Nat} {p1 p2 : Int32} {rv : (Int32) ⊕ Nat} {N' : cN} {E' : cE} {F' : cF} {k' n' : Nat} (h : fJ_define N C E F k n p1 p2 = some (rv, N', E', F', (k', n'))) (D : Nat) (hD : 3 ≤ D) : am_Call D 64 [.ref 0, .int p1, .int p2] (W9 N C E F P Q T G U H B O J V Y Z O9) k n (am_oI rv, W9 N' C E' F' P Q T G U H B O J V Y Z O9, k', n') := by
  unfold fJ_define at h
  obtain ⟨D, rfl⟩ : ∃ D', D = D' + 1 := ⟨D - 1, by omega⟩
  have hD : 2 ≤ D := by omega
  refine am_call_run (by decide) (by decide) rfl (Nat.le_of_ble_eq_true rfl) (by decide) (L := [(0, .ref 0), (1, .int p1), (2, .int p2)]) rfl ?_
  refine am_ev_st 2 (f' := (4, [(0, .ref 0), (1, .int p1), (2, .int p2)], [.ref 7], (W9 N C E F P Q T G U H B O J V Y Z O9), k, n)) (g := True ∧ True ∧ True) (by with_unfolding_all rfl) ⟨trivial, trivial, trivial⟩ ?_
  replace h := Option.bind_eq_some_iff.mp h
  obtain ⟨r1, hc1, h⟩ := h
  try dsimp only at h
  refine am_ev_call (.invokevirtual 107) 2 0 649 [.ref 7] [] rfl rfl rfl rfl (ok_fC_isFull hc1 D (by omega)) rfl ?_
  refine am_ev_st 1 (f' := am_br ((am_bz r1) = 0) 15 7 [(0, .ref 0), (1, .int p1), (2, .int p2)] [] (W9 N C E F P Q T G U H B O J V Y Z O9) k n) (g := True ∧ True) (by with_unfolding_all rfl) ⟨trivial, trivial⟩ ?_
  by_cases c2 : (am_bz r1) = 0
  · rw [if_pos c2] at h
    refine am_ev_pos c2 ?_
    refine am_ev_st 4 (f' := (19, [(0, .ref 0), (1, .int p1), (2, .int p2)], [.int p2, .int p1, .int p1, .ref 0], (W9 N C E F P Q T G U H B O J V Y Z O9), k, n)) (g := True ∧ True ∧ True ∧ True ∧ True) (by with_unfolding_all rfl) ⟨trivial, trivial, trivial, trivial, trivial⟩ ?_
    replace h := Option.bind_eq_some_iff.mp h
    obtain ⟨⟨⟨⟩ | e3, N_3, E_3, F_3, ⟨k_3, n_3⟩⟩, hc3, h⟩ := h
    · dsimp only at h
      refine am_ev_call (.invokevirtual 86) 73 6 465 [.ref 0, .int p1, .int p1, .int p2] [] rfl rfl rfl rfl (ok_fJ_begin hc3 D (by omega)) rfl ?_
      cases h
    · dsimp only at h
      cases h
      exact am_ev_callx (.invokevirtual 86) 73 6 465 [.ref 0, .int p1, .int p1, .int p2] [] rfl rfl rfl rfl (ok_fJ_begin hc3 D (by omega)) rfl rfl rfl
  · rw [if_neg c2] at h
    refine am_ev_neg c2 ?_
    refine am_ev_st 1 (f' := (11, [(0, .ref 0), (1, .int p1), (2, .int p2)], [.ref 0], (W9 N C E F P Q T G U H B O J V Y Z O9), k, n)) (g := True ∧ True) (by with_unfolding_all rfl) ⟨trivial, trivial⟩ ?_
    replace h := Option.bind_eq_some_iff.mp h
    obtain ⟨⟨r4, E_4⟩, hc4, h⟩ := h
    try dsimp only at h
    refine am_ev_call (.invokevirtual 111) 74 0 653 [.ref 0] [] rfl rfl rfl rfl (ok_fJ_refuseUnlooked hc4 D (by omega)) rfl ?_
    cases h
    exact am_ev_ret 0 0 0 rfl .int rfl rfl rfl
def fL_define (N : cN) (C : cC) (E : cE) (F : cF) (O9 : cO9) (k n : Nat) (p2 p3 : Int32) : Option (Int32 × cN × cE × cF × cO9 × (Nat × Nat)) :=
  (fJ_define N C E F k n p2 p3).bind fun z1 =>
  match z1 with
  | (.inl r1, N_1, E_1, F_1, (k_1, n_1)) =>
  (if ((0 : Int32) < 0 ∨ 1 ≤ ((0 : Int32)).toNatClampNeg) then none else
  some ((0 : Int32), N_1, E_1, F_1, ((vp_updL O9 ((0 : Int32)).toNatClampNeg r1.toInt64)), (k_1, n_1)))
  | (.inr e1, N_1, E_1, F_1, (k_1, n_1)) =>
  (if e1 = 0 then
  (some ((1 : Int32), N_1, E_1, F_1, O9, (k_1, n_1)))
  else
  if e1 = 1 then
  (some ((2 : Int32), N_1, E_1, F_1, O9, (k_1, n_1)))
  else
  if e1 = 2 then
  (some ((3 : Int32), N_1, E_1, F_1, O9, (k_1, n_1)))
  else
  none)
set_option maxHeartbeats 4000000 in
set_option maxRecDepth 100000 in
theorem ok_fL_define  {N : cN} {C : cC} {E : cE} {F : cF} {P : cP} {Q : cQ} {T : cT} {G : cG} {U : cU} {H : cH} {B : cB} {O : cO} {J : cJ} {V : cV} {Y : cY} {Z : cZ} {O9 : cO9} {k n : Nat} {p2 p3 : Int32} {rv : Int32} {N' : cN} {E' : cE} {F' : cF} {O9' : cO9} {k' n' : Nat} (h : fL_define N C E F O9 k n p2 p3 = some (rv, N', E', F', O9', (k', n'))) (D : Nat) (hD : 4 ≤ D) : am_Call D 131 [.ref 0, .int p2, .int p3, .ref 38] (W9 N C E F P Q T G U H B O J V Y Z O9) k n (.inl (some (.int rv)), W9 N' C E' F' P Q T G U H B O J V Y Z O9', k', n') := by
  unfold fL_define at h
  obtain ⟨D, rfl⟩ : ∃ D', D = D' + 1 := ⟨D - 1, by omega⟩
  have hD : 3 ≤ D := by omega
  refine am_call_run (by decide) (by decide) rfl (Nat.le_of_ble_eq_true rfl) (by decide) (L := [(0, .ref 0), (1, .int p2), (2, .int p3), (3, .ref 38)]) rfl ?_
  refine am_ev_st 5 (f' := (5, [(0, .ref 0), (1, .int p2), (2, .int p3), (3, .ref 38)], [.int p3, .int p2, .ref 0, .int (0 : Int32), .ref 38], (W9 N C E F P Q T G U H B O J V Y Z O9), k, n)) (g := True ∧ True ∧ True ∧ True ∧ True ∧ True) (by with_unfolding_all rfl) ⟨trivial, trivial, trivial, trivial, trivial, trivial⟩ ?_
  replace h := Option.bind_eq_some_iff.mp h
  obtain ⟨⟨r1 | e1, N_1, E_1, F_1, ⟨k_1, n_1⟩⟩, hc1, h⟩ := h
  · dsimp only at h
    refine am_ev_call (.invokevirtual 32) 64 4 664 [.ref 0, .int p2, .int p3] [.int (0 : Int32), .ref 38] rfl rfl rfl rfl (ok_fJ_define hc1 D (by omega)) rfl ?_
    by_cases g2 : ((0 : Int32) < 0 ∨ 1 ≤ ((0 : Int32)).toNatClampNeg)
    · rw [if_pos g2] at h; cases h
    rw [if_neg g2] at h
    refine am_ev_st 4 (f' := (26, [(0, .ref 0), (1, .int p2), (2, .int p3), (3, .ref 38)], [.int (0 : Int32)], (W9 N_1 C E_1 F_1 P Q T G U H B O J V Y Z ((vp_updL O9 ((0 : Int32)).toNatClampNeg r1.toInt64))), k_1, n_1)) (g := True ∧ vp_in ((0 : Int32)) 1 ∧ True ∧ True ∧ True) (by with_unfolding_all rfl) ⟨trivial, g2, trivial, trivial, trivial⟩ ?_
    cases h
    exact am_ev_ret 0 0 0 rfl .int rfl rfl rfl
  · dsimp only at h
    by_cases c3 : e1 = 0
    · rw [if_pos c3] at h
      subst c3
      refine am_ev_catch (.invokevirtual 32) 64 4 664 [.ref 0, .int p2, .int p3] [.int (0 : Int32), .ref 38] rfl rfl rfl rfl (ok_fJ_define hc1 D (by omega)) rfl 13 rfl rfl ?_
      refine am_ev_st 2 (f' := (16, [(4, .retAddr 1), (0, .ref 0), (1, .int p2), (2, .int p3), (3, .ref 38)], [.int (1 : Int32)], (W9 N_1 C E_1 F_1 P Q T G U H B O J V Y Z O9), k_1, n_1)) (g := True ∧ True ∧ True) (by with_unfolding_all rfl) ⟨trivial, trivial, trivial⟩ ?_
      cases h
      exact am_ev_ret 0 0 0 rfl .int rfl rfl rfl
    rw [if_neg c3] at h
    by_cases c4 : e1 = 1
    · rw [if_pos c4] at h
      subst c4
      refine am_ev_catch (.invokevirtual 32) 64 4 664 [.ref 0, .int p2, .int p3] [.int (0 : Int32), .ref 38] rfl rfl rfl rfl (ok_fJ_define hc1 D (by omega)) rfl 17 rfl rfl ?_
      refine am_ev_st 2 (f' := (20, [(4, .retAddr 1), (0, .ref 0), (1, .int p2), (2, .int p3), (3, .ref 38)], [.int (2 : Int32)], (W9 N_1 C E_1 F_1 P Q T G U H B O J V Y Z O9), k_1, n_1)) (g := True ∧ True ∧ True) (by with_unfolding_all rfl) ⟨trivial, trivial, trivial⟩ ?_
      cases h
      exact am_ev_ret 0 0 0 rfl .int rfl rfl rfl
    rw [if_neg c4] at h
    by_cases c5 : e1 = 2
    · rw [if_pos c5] at h
      subst c5
      refine am_ev_catch (.invokevirtual 32) 64 4 664 [.ref 0, .int p2, .int p3] [.int (0 : Int32), .ref 38] rfl rfl rfl rfl (ok_fJ_define hc1 D (by omega)) rfl 21 rfl rfl ?_
      refine am_ev_st 2 (f' := (24, [(4, .retAddr 1), (0, .ref 0), (1, .int p2), (2, .int p3), (3, .ref 38)], [.int (3 : Int32)], (W9 N_1 C E_1 F_1 P Q T G U H B O J V Y Z O9), k_1, n_1)) (g := True ∧ True ∧ True) (by with_unfolding_all rfl) ⟨trivial, trivial, trivial⟩ ?_
      cases h
      exact am_ev_ret 0 0 0 rfl .int rfl rfl rfl
    rw [if_neg c5] at h
    cases h
def fN_fill (N : cN) (p1 p2 p3 p4 : Int32) : Option (cN) :=
  match N with
  | (nK, nL, nR, nS, nD, cap, mt, le, en) =>
  if p1 < 0 then
  (some N)
  else
  if p1 < (Int32.ofNat cap) then
  (if (p1 < 0 ∨ cap ≤ (p1).toNatClampNeg) then none else
  if (p1 < 0 ∨ cap ≤ (p1).toNatClampNeg) then none else
  if (p1 < 0 ∨ cap ≤ (p1).toNatClampNeg) then none else
  if (p1 < 0 ∨ cap ≤ (p1).toNatClampNeg) then none else
  if (p1 < 0 ∨ cap ≤ (p1).toNatClampNeg) then none else
  if p4 = (-1 : Int32) then
  (some ((upd nK (p1).toNatClampNeg p2), (upd nL (p1).toNatClampNeg p3), (upd nR (p1).toNatClampNeg p4), (upd nS (p1).toNatClampNeg (1 : Int32)), (upd nD (p1).toNatClampNeg (1 : Int32)), cap, mt, le, en))
  else
  if p3 < 0 then
  (some ((upd nK (p1).toNatClampNeg p2), (upd nL (p1).toNatClampNeg p3), (upd nR (p1).toNatClampNeg p4), (upd nS (p1).toNatClampNeg (1 : Int32)), (upd nD (p1).toNatClampNeg (1 : Int32)), cap, mt, le, en))
  else
  if (Int32.ofNat cap) ≤ p3 then
  (some ((upd nK (p1).toNatClampNeg p2), (upd nL (p1).toNatClampNeg p3), (upd nR (p1).toNatClampNeg p4), (upd nS (p1).toNatClampNeg (1 : Int32)), (upd nD (p1).toNatClampNeg (1 : Int32)), cap, mt, le, en))
  else
  if p4 < 0 then
  (some ((upd nK (p1).toNatClampNeg p2), (upd nL (p1).toNatClampNeg p3), (upd nR (p1).toNatClampNeg p4), (upd nS (p1).toNatClampNeg (1 : Int32)), (upd nD (p1).toNatClampNeg (1 : Int32)), cap, mt, le, en))
  else
  if (Int32.ofNat cap) ≤ p4 then
  (some ((upd nK (p1).toNatClampNeg p2), (upd nL (p1).toNatClampNeg p3), (upd nR (p1).toNatClampNeg p4), (upd nS (p1).toNatClampNeg (1 : Int32)), (upd nD (p1).toNatClampNeg (1 : Int32)), cap, mt, le, en))
  else
  if (p3 < 0 ∨ cap ≤ (p3).toNatClampNeg) then none else
  if (p4 < 0 ∨ cap ≤ (p4).toNatClampNeg) then none else
  if (p1 < 0 ∨ cap ≤ (p1).toNatClampNeg) then none else
  if (p3 < 0 ∨ cap ≤ (p3).toNatClampNeg) then none else
  if (p4 < 0 ∨ cap ≤ (p4).toNatClampNeg) then none else
  if (p1 < 0 ∨ cap ≤ (p1).toNatClampNeg) then none else
  some ((upd nK (p1).toNatClampNeg p2), (upd nL (p1).toNatClampNeg p3), (upd nR (p1).toNatClampNeg p4), (upd (upd nS (p1).toNatClampNeg (1 : Int32)) (p1).toNatClampNeg (((1 : Int32) + (((upd nS (p1).toNatClampNeg (1 : Int32))) (p3).toNatClampNeg)) + (((upd nS (p1).toNatClampNeg (1 : Int32))) (p4).toNatClampNeg))), (upd (upd nD (p1).toNatClampNeg (1 : Int32)) (p1).toNatClampNeg ((1 : Int32) + (if (((upd nD (p1).toNatClampNeg (1 : Int32))) (p3).toNatClampNeg) < (((upd nD (p1).toNatClampNeg (1 : Int32))) (p4).toNatClampNeg) then (((upd nD (p1).toNatClampNeg (1 : Int32))) (p4).toNatClampNeg) else (((upd nD (p1).toNatClampNeg (1 : Int32))) (p3).toNatClampNeg)))), cap, mt, le, en))
  else
  some N
set_option maxHeartbeats 4000000 in
set_option maxRecDepth 100000 in
theorem ok_fN_fill  {N : cN} {C : cC} {E : cE} {F : cF} {P : cP} {Q : cQ} {T : cT} {G : cG} {U : cU} {H : cH} {B : cB} {O : cO} {J : cJ} {V : cV} {Y : cY} {Z : cZ} {O9 : cO9} {k n : Nat} {p1 p2 p3 p4 : Int32} {N' : cN} (h : fN_fill N p1 p2 p3 p4 = some N') (D : Nat) (hD : 1 ≤ D) : am_Call D 39 [.ref 1, .int p1, .int p2, .int p3, .int p4] (W9 N C E F P Q T G U H B O J V Y Z O9) k n (.inl none, W9 N' C E F P Q T G U H B O J V Y Z O9, k, n) := by
  unfold fN_fill at h
  obtain ⟨D, rfl⟩ : ∃ D', D = D' + 1 := ⟨D - 1, by omega⟩
  have hD : 0 ≤ D := by omega
  refine am_call_run (by decide) (by decide) rfl (Nat.le_of_ble_eq_true rfl) (by decide) (L := [(0, .ref 1), (1, .int p1), (2, .int p2), (3, .int p3), (4, .int p4)]) rfl ?_
  obtain ⟨nK, nL, nR, nS, nD, cap, mt, le, en⟩ := N
  try dsimp only at h
  refine am_ev_st 6 (f' := am_br (p1 < 0) 17 8 [(5, .int (Int32.ofNat cap)), (0, .ref 1), (1, .int p1), (2, .int p2), (3, .int p3), (4, .int p4)] [] (W9 (nK, nL, nR, nS, nD, cap, mt, le, en) C E F P Q T G U H B O J V Y Z O9) k n) (g := True ∧ True ∧ True ∧ True ∧ True ∧ True ∧ True) (by with_unfolding_all rfl) ⟨trivial, trivial, trivial, trivial, trivial, trivial, trivial⟩ ?_
  by_cases c1 : p1 < 0
  · rw [if_pos c1] at h
    refine am_ev_pos c1 ?_
    cases h
    exact am_ev_vret 0 0 0 rfl rfl rfl
  · rw [if_neg c1] at h
    refine am_ev_neg c1 ?_
    refine am_ev_st 3 (f' := am_br (p1 < (Int32.ofNat cap)) 18 14 [(5, .int (Int32.ofNat cap)), (0, .ref 1), (1, .int p1), (2, .int p2), (3, .int p3), (4, .int p4)] [] (W9 (nK, nL, nR, nS, nD, cap, mt, le, en) C E F P Q T G U H B O J V Y Z O9) k n) (g := True ∧ True ∧ True ∧ True) (by with_unfolding_all rfl) ⟨trivial, trivial, trivial, trivial⟩ ?_
    by_cases c2 : p1 < (Int32.ofNat cap)
    · rw [if_pos c2] at h
      refine am_ev_pos c2 ?_
      by_cases g3 : (p1 < 0 ∨ cap ≤ (p1).toNatClampNeg)
      · rw [if_pos g3] at h; cases h
      rw [if_neg g3] at h
      by_cases g4 : (p1 < 0 ∨ cap ≤ (p1).toNatClampNeg)
      · rw [if_pos g4] at h; cases h
      rw [if_neg g4] at h
      by_cases g5 : (p1 < 0 ∨ cap ≤ (p1).toNatClampNeg)
      · rw [if_pos g5] at h; cases h
      rw [if_neg g5] at h
      by_cases g6 : (p1 < 0 ∨ cap ≤ (p1).toNatClampNeg)
      · rw [if_pos g6] at h; cases h
      rw [if_neg g6] at h
      by_cases g7 : (p1 < 0 ∨ cap ≤ (p1).toNatClampNeg)
      · rw [if_pos g7] at h; cases h
      rw [if_neg g7] at h
      refine am_ev_st 28 (f' := am_br (p4 = (-1 : Int32)) 128 57 [(5, .int (Int32.ofNat cap)), (0, .ref 1), (1, .int p1), (2, .int p2), (3, .int p3), (4, .int p4)] [] (W9 ((upd nK (p1).toNatClampNeg p2), (upd nL (p1).toNatClampNeg p3), (upd nR (p1).toNatClampNeg p4), (upd nS (p1).toNatClampNeg (1 : Int32)), (upd nD (p1).toNatClampNeg (1 : Int32)), cap, mt, le, en) C E F P Q T G U H B O J V Y Z O9) k n) (g := True ∧ True ∧ True ∧ True ∧ vp_in (p1) cap ∧ True ∧ True ∧ True ∧ True ∧ vp_in (p1) cap ∧ True ∧ True ∧ True ∧ True ∧ vp_in (p1) cap ∧ True ∧ True ∧ True ∧ True ∧ vp_in (p1) cap ∧ True ∧ True ∧ True ∧ True ∧ vp_in (p1) cap ∧ True ∧ True ∧ True ∧ True) (by with_unfolding_all rfl) ⟨trivial, trivial, trivial, trivial, g3, trivial, trivial, trivial, trivial, g4, trivial, trivial, trivial, trivial, g5, trivial, trivial, trivial, trivial, g6, trivial, trivial, trivial, trivial, g7, trivial, trivial, trivial, trivial⟩ ?_
      by_cases c8 : p4 = (-1 : Int32)
      · rw [if_pos c8] at h
        refine am_ev_pos c8 ?_
        cases h
        exact am_ev_vret 0 0 0 rfl rfl rfl
      · rw [if_neg c8] at h
        refine am_ev_neg c8 ?_
        refine am_ev_st 2 (f' := am_br (p3 < 0) 128 61 [(5, .int (Int32.ofNat cap)), (0, .ref 1), (1, .int p1), (2, .int p2), (3, .int p3), (4, .int p4)] [] (W9 ((upd nK (p1).toNatClampNeg p2), (upd nL (p1).toNatClampNeg p3), (upd nR (p1).toNatClampNeg p4), (upd nS (p1).toNatClampNeg (1 : Int32)), (upd nD (p1).toNatClampNeg (1 : Int32)), cap, mt, le, en) C E F P Q T G U H B O J V Y Z O9) k n) (g := True ∧ True ∧ True) (by with_unfolding_all rfl) ⟨trivial, trivial, trivial⟩ ?_
        by_cases c9 : p3 < 0
        · rw [if_pos c9] at h
          refine am_ev_pos c9 ?_
          cases h
          exact am_ev_vret 0 0 0 rfl rfl rfl
        · rw [if_neg c9] at h
          refine am_ev_neg c9 ?_
          refine am_ev_st 3 (f' := am_br ((Int32.ofNat cap) ≤ p3) 128 67 [(5, .int (Int32.ofNat cap)), (0, .ref 1), (1, .int p1), (2, .int p2), (3, .int p3), (4, .int p4)] [] (W9 ((upd nK (p1).toNatClampNeg p2), (upd nL (p1).toNatClampNeg p3), (upd nR (p1).toNatClampNeg p4), (upd nS (p1).toNatClampNeg (1 : Int32)), (upd nD (p1).toNatClampNeg (1 : Int32)), cap, mt, le, en) C E F P Q T G U H B O J V Y Z O9) k n) (g := True ∧ True ∧ True ∧ True) (by with_unfolding_all rfl) ⟨trivial, trivial, trivial, trivial⟩ ?_
          by_cases c10 : (Int32.ofNat cap) ≤ p3
          · rw [if_pos c10] at h
            refine am_ev_pos c10 ?_
            cases h
            exact am_ev_vret 0 0 0 rfl rfl rfl
          · rw [if_neg c10] at h
            refine am_ev_neg c10 ?_
            refine am_ev_st 2 (f' := am_br (p4 < 0) 128 72 [(5, .int (Int32.ofNat cap)), (0, .ref 1), (1, .int p1), (2, .int p2), (3, .int p3), (4, .int p4)] [] (W9 ((upd nK (p1).toNatClampNeg p2), (upd nL (p1).toNatClampNeg p3), (upd nR (p1).toNatClampNeg p4), (upd nS (p1).toNatClampNeg (1 : Int32)), (upd nD (p1).toNatClampNeg (1 : Int32)), cap, mt, le, en) C E F P Q T G U H B O J V Y Z O9) k n) (g := True ∧ True ∧ True) (by with_unfolding_all rfl) ⟨trivial, trivial, trivial⟩ ?_
            by_cases c11 : p4 < 0
            · rw [if_pos c11] at h
              refine am_ev_pos c11 ?_
              cases h
              exact am_ev_vret 0 0 0 rfl rfl rfl
            · rw [if_neg c11] at h
              refine am_ev_neg c11 ?_
              refine am_ev_st 3 (f' := am_br ((Int32.ofNat cap) ≤ p4) 128 79 [(5, .int (Int32.ofNat cap)), (0, .ref 1), (1, .int p1), (2, .int p2), (3, .int p3), (4, .int p4)] [] (W9 ((upd nK (p1).toNatClampNeg p2), (upd nL (p1).toNatClampNeg p3), (upd nR (p1).toNatClampNeg p4), (upd nS (p1).toNatClampNeg (1 : Int32)), (upd nD (p1).toNatClampNeg (1 : Int32)), cap, mt, le, en) C E F P Q T G U H B O J V Y Z O9) k n) (g := True ∧ True ∧ True ∧ True) (by with_unfolding_all rfl) ⟨trivial, trivial, trivial, trivial⟩ ?_
              by_cases c12 : (Int32.ofNat cap) ≤ p4
              · rw [if_pos c12] at h
                refine am_ev_pos c12 ?_
                cases h
                exact am_ev_vret 0 0 0 rfl rfl rfl
              · rw [if_neg c12] at h
                refine am_ev_neg c12 ?_
                by_cases g13 : (p3 < 0 ∨ cap ≤ (p3).toNatClampNeg)
                · rw [if_pos g13] at h; cases h
                rw [if_neg g13] at h
                by_cases g14 : (p4 < 0 ∨ cap ≤ (p4).toNatClampNeg)
                · rw [if_pos g14] at h; cases h
                rw [if_neg g14] at h
                by_cases g15 : (p1 < 0 ∨ cap ≤ (p1).toNatClampNeg)
                · rw [if_pos g15] at h; cases h
                rw [if_neg g15] at h
                by_cases g16 : (p3 < 0 ∨ cap ≤ (p3).toNatClampNeg)
                · rw [if_pos g16] at h; cases h
                rw [if_neg g16] at h
                by_cases g17 : (p4 < 0 ∨ cap ≤ (p4).toNatClampNeg)
                · rw [if_pos g17] at h; cases h
                rw [if_neg g17] at h
                by_cases g18 : (p1 < 0 ∨ cap ≤ (p1).toNatClampNeg)
                · rw [if_pos g18] at h; cases h
                rw [if_neg g18] at h
                refine am_ev_st 30 (f' := (128, [(5, .int (Int32.ofNat cap)), (0, .ref 1), (1, .int p1), (2, .int p2), (3, .int p3), (4, .int p4)], [], (W9 ((upd nK (p1).toNatClampNeg p2), (upd nL (p1).toNatClampNeg p3), (upd nR (p1).toNatClampNeg p4), (upd (upd nS (p1).toNatClampNeg (1 : Int32)) (p1).toNatClampNeg (((1 : Int32) + (((upd nS (p1).toNatClampNeg (1 : Int32))) (p3).toNatClampNeg)) + (((upd nS (p1).toNatClampNeg (1 : Int32))) (p4).toNatClampNeg))), (upd (upd nD (p1).toNatClampNeg (1 : Int32)) (p1).toNatClampNeg ((1 : Int32) + (if (((upd nD (p1).toNatClampNeg (1 : Int32))) (p3).toNatClampNeg) < (((upd nD (p1).toNatClampNeg (1 : Int32))) (p4).toNatClampNeg) then (((upd nD (p1).toNatClampNeg (1 : Int32))) (p4).toNatClampNeg) else (((upd nD (p1).toNatClampNeg (1 : Int32))) (p3).toNatClampNeg)))), cap, mt, le, en) C E F P Q T G U H B O J V Y Z O9), k, n)) (g := True ∧ True ∧ True ∧ True ∧ True ∧ True ∧ True ∧ vp_in (p3) cap ∧ True ∧ True ∧ True ∧ True ∧ vp_in (p4) cap ∧ True ∧ vp_in (p1) cap ∧ True ∧ True ∧ True ∧ True ∧ True ∧ True ∧ True ∧ vp_in (p3) cap ∧ True ∧ True ∧ True ∧ vp_in (p4) cap ∧ True ∧ True ∧ vp_in (p1) cap ∧ True) (by with_unfolding_all rfl) ⟨trivial, trivial, trivial, trivial, trivial, trivial, trivial, g13, trivial, trivial, trivial, trivial, g14, trivial, g15, trivial, trivial, trivial, trivial, trivial, trivial, trivial, g16, trivial, trivial, trivial, g17, trivial, trivial, g18, trivial⟩ ?_
                cases h
                exact am_ev_vret 0 0 0 rfl rfl rfl
    · rw [if_neg c2] at h
      refine am_ev_neg c2 ?_
      cases h
      exact am_ev_vret 0 0 0 rfl rfl rfl
