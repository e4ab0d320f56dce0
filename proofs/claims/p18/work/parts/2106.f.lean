def fJ_infer (fl : Nat) (d : Nat) (N : cN) (C : cC) (E : cE) (F : cF) (P : cP) (k n : Nat) (p1 p2 : Int32) : Option (((Int32) ⊕ Nat) × cN × cE × cF × cP × (Nat × Nat)) :=
  (fJ_begin N E F k n p1 p1 p2).bind fun z1 =>
  match z1 with
  | (.inl (), N_1, E_1, F_1, (k_1, n_1)) =>
  ((fF_typeFound fl d N_1 C E_1 F_1 k_1 n_1 p1).bind fun z2 =>
  match z2 with
  | (.inl r2, N_2, E_2, F_2, (k_2, n_2)) =>
  ((fM_write_P d N_2 P r2).bind fun z3 =>
  match z3 with
  | (r3, P_3) =>
  some (.inl r3, N_2, E_2, F_2, P_3, (k_2, n_2)))
  | (.inr e2, N_2, E_2, F_2, (k_2, n_2)) =>
  (some (.inr e2, N_2, E_2, F_2, P, (k_2, n_2))))
  | (.inr e1, N_1, E_1, F_1, (k_1, n_1)) =>
  (some (.inr e1, N_1, E_1, F_1, P, (k_1, n_1)))
set_option maxHeartbeats 4000000 in
set_option maxRecDepth 100000 in
theorem ok_fJ_infer {fl d : Nat} {N : cN} {C : cC} {E : cE} {F : cF} {P : cP} {Q : cQ} {k n : Nat} {p1 p2 : Int32} {rv : (Int32) ⊕ Nat} {N' : cN} {E' : cE} {F' : cF} {P' : cP} {k' n' : Nat} (h : fJ_infer fl d N C E F P k n p1 p2 = some (rv, N', E', F', P', (k', n'))) (D : Nat) (hD : d + 6 ≤ D) : am_Call D 58 [.ref 0, .int p1, .int p2] (W9 N C E F P Q) k n (am_oI rv, W9 N' C E' F' P' Q, k', n') := by
  unfold fJ_infer at h
  obtain ⟨D, rfl⟩ : ∃ D', D = D' + 1 := ⟨D - 1, by omega⟩
  have hD : d + 5 ≤ D := by omega
  refine am_call_run (by decide) (by decide) rfl (Nat.le_of_ble_eq_true rfl) (by decide) (L := [(0, .ref 0), (1, .int p1), (2, .int p2)]) rfl ?_
  refine am_ev_st 4 (f' := (4, [(0, .ref 0), (1, .int p1), (2, .int p2)], [.int p2, .int p1, .int p1, .ref 0], (W9 N C E F P Q), k, n)) (g := True ∧ True ∧ True ∧ True ∧ True) (by with_unfolding_all rfl) ⟨trivial, trivial, trivial, trivial, trivial⟩ ?_
  replace h := Option.bind_eq_some_iff.mp h
  obtain ⟨⟨⟨⟩ | e1, N_1, E_1, F_1, ⟨k_1, n_1⟩⟩, hc1, h⟩ := h
  · dsimp only at h
    refine am_ev_call (.invokevirtual 86) 71 6 420 [.ref 0, .int p1, .int p1, .int p2] [] rfl rfl rfl rfl (ok_fJ_begin hc1 D (by omega)) rfl ?_
    refine am_ev_st 7 (f' := (20, [(0, .ref 0), (1, .int p1), (2, .int p2)], [.int p1, .ref 13, .ref 1, .ref 15], (W9 N_1 C E_1 F_1 P Q), k_1, n_1)) (g := True ∧ True ∧ True ∧ True ∧ True ∧ True ∧ True ∧ True) (by with_unfolding_all rfl) ⟨trivial, trivial, trivial, trivial, trivial, trivial, trivial, trivial⟩ ?_
    replace h := Option.bind_eq_some_iff.mp h
    obtain ⟨⟨r2 | e2, N_2, E_2, F_2, ⟨k_2, n_2⟩⟩, hc2, h⟩ := h
    · dsimp only at h
      refine am_ev_call (.invokevirtual 90) 9 2 452 [.ref 13, .int p1] [.ref 1, .ref 15] rfl rfl rfl rfl (ok_fF_typeFound hc2 D (by omega)) rfl ?_
      replace h := Option.bind_eq_some_iff.mp h
      obtain ⟨⟨r3, P_3⟩, hc3, h⟩ := h
      try dsimp only at h
      refine am_ev_call (.invokevirtual 93) 21 4 252 [.ref 15, .ref 1, .int r2] [] rfl rfl rfl rfl (ok_fM_write_P hc3 D (by omega)) rfl ?_
      cases h
      exact am_ev_ret 0 0 0 rfl .int rfl rfl rfl
    · dsimp only at h
      cases h
      exact am_ev_callx (.invokevirtual 90) 9 2 452 [.ref 13, .int p1] [.ref 1, .ref 15] rfl rfl rfl rfl (ok_fF_typeFound hc2 D (by omega)) rfl rfl rfl
  · dsimp only at h
    cases h
    exact am_ev_callx (.invokevirtual 86) 71 6 420 [.ref 0, .int p1, .int p1, .int p2] [] rfl rfl rfl rfl (ok_fJ_begin hc1 D (by omega)) rfl rfl rfl
def fL_infer (fl : Nat) (d : Nat) (N : cN) (C : cC) (E : cE) (F : cF) (P : cP) (k n : Nat) (p2 p3 : Int32) : Option (Int32 × cN × cE × cF × cP × (Nat × Nat)) :=
  (fJ_infer fl d N C E F P k n p2 p3).bind fun z1 =>
  match z1 with
  | (.inl r1, N_1, E_1, F_1, P_1, (k_1, n_1)) =>
  (some (r1, N_1, E_1, F_1, P_1, (k_1, n_1)))
  | (.inr e1, N_1, E_1, F_1, P_1, (k_1, n_1)) =>
  (if e1 = 0 then
  (some ((-1 : Int32), N_1, E_1, F_1, P_1, (k_1, n_1)))
  else
  if e1 = 1 then
  (some ((-2 : Int32), N_1, E_1, F_1, P_1, (k_1, n_1)))
  else
  if e1 = 2 then
  (some ((-3 : Int32), N_1, E_1, F_1, P_1, (k_1, n_1)))
  else
  none)
set_option maxHeartbeats 4000000 in
set_option maxRecDepth 100000 in
theorem ok_fL_infer {fl d : Nat} {N : cN} {C : cC} {E : cE} {F : cF} {P : cP} {Q : cQ} {k n : Nat} {p2 p3 : Int32} {rv : Int32} {N' : cN} {E' : cE} {F' : cF} {P' : cP} {k' n' : Nat} (h : fL_infer fl d N C E F P k n p2 p3 = some (rv, N', E', F', P', (k', n'))) (D : Nat) (hD : d + 7 ≤ D) : am_Call D 74 [.ref 0, .int p2, .int p3] (W9 N C E F P Q) k n (.inl (some (.int rv)), W9 N' C E' F' P' Q, k', n') := by
  unfold fL_infer at h
  obtain ⟨D, rfl⟩ : ∃ D', D = D' + 1 := ⟨D - 1, by omega⟩
  have hD : d + 6 ≤ D := by omega
  refine am_call_run (by decide) (by decide) rfl (Nat.le_of_ble_eq_true rfl) (by decide) (L := [(0, .ref 0), (1, .int p2), (2, .int p3)]) rfl ?_
  refine am_ev_st 3 (f' := (3, [(0, .ref 0), (1, .int p2), (2, .int p3)], [.int p3, .int p2, .ref 0], (W9 N C E F P Q), k, n)) (g := True ∧ True ∧ True ∧ True) (by with_unfolding_all rfl) ⟨trivial, trivial, trivial, trivial⟩ ?_
  replace h := Option.bind_eq_some_iff.mp h
  obtain ⟨⟨r1 | e1, N_1, E_1, F_1, P_1, ⟨k_1, n_1⟩⟩, hc1, h⟩ := h
  · dsimp only at h
    refine am_ev_call (.invokevirtual 7) 58 4 416 [.ref 0, .int p2, .int p3] [] rfl rfl rfl rfl (ok_fJ_infer hc1 D (by omega)) rfl ?_
    cases h
    exact am_ev_ret 0 0 0 rfl .int rfl rfl rfl
  · dsimp only at h
    by_cases c2 : e1 = 0
    · rw [if_pos c2] at h
      subst c2
      refine am_ev_catch (.invokevirtual 7) 58 4 416 [.ref 0, .int p2, .int p3] [] rfl rfl rfl rfl (ok_fJ_infer hc1 D (by omega)) rfl 7 rfl rfl ?_
      refine am_ev_st 2 (f' := (9, [(3, .retAddr 1), (0, .ref 0), (1, .int p2), (2, .int p3)], [.int (-1 : Int32)], (W9 N_1 C E_1 F_1 P_1 Q), k_1, n_1)) (g := True ∧ True ∧ True) (by with_unfolding_all rfl) ⟨trivial, trivial, trivial⟩ ?_
      cases h
      exact am_ev_ret 0 0 0 rfl .int rfl rfl rfl
    rw [if_neg c2] at h
    by_cases c3 : e1 = 1
    · rw [if_pos c3] at h
      subst c3
      refine am_ev_catch (.invokevirtual 7) 58 4 416 [.ref 0, .int p2, .int p3] [] rfl rfl rfl rfl (ok_fJ_infer hc1 D (by omega)) rfl 10 rfl rfl ?_
      refine am_ev_st 2 (f' := (13, [(3, .retAddr 1), (0, .ref 0), (1, .int p2), (2, .int p3)], [.int (-2 : Int32)], (W9 N_1 C E_1 F_1 P_1 Q), k_1, n_1)) (g := True ∧ True ∧ True) (by with_unfolding_all rfl) ⟨trivial, trivial, trivial⟩ ?_
      cases h
      exact am_ev_ret 0 0 0 rfl .int rfl rfl rfl
    rw [if_neg c3] at h
    by_cases c4 : e1 = 2
    · rw [if_pos c4] at h
      subst c4
      refine am_ev_catch (.invokevirtual 7) 58 4 416 [.ref 0, .int p2, .int p3] [] rfl rfl rfl rfl (ok_fJ_infer hc1 D (by omega)) rfl 14 rfl rfl ?_
      refine am_ev_st 2 (f' := (17, [(3, .retAddr 1), (0, .ref 0), (1, .int p2), (2, .int p3)], [.int (-3 : Int32)], (W9 N_1 C E_1 F_1 P_1 Q), k_1, n_1)) (g := True ∧ True ∧ True) (by with_unfolding_all rfl) ⟨trivial, trivial, trivial⟩ ?_
      cases h
      exact am_ev_ret 0 0 0 rfl .int rfl rfl rfl
    rw [if_neg c4] at h
    cases h
def fJ_reduce (fl : Nat) (d : Nat) (N : cN) (C : cC) (E : cE) (F : cF) (P : cP) (k n : Nat) (p1 p2 : Int32) : Option (((Int32) ⊕ Nat) × cN × cE × cF × cP × (Nat × Nat)) :=
  (fJ_begin N E F k n p1 p1 p2).bind fun z1 =>
  match z1 with
  | (.inl (), N_1, E_1, F_1, (k_1, n_1)) =>
  ((fE_headForm fl d N_1 C E_1 k_1 n_1 p1).bind fun z2 =>
  match z2 with
  | (.inl r2, N_2, E_2, (k_2, n_2)) =>
  ((fM_write_P d N_2 P r2).bind fun z3 =>
  match z3 with
  | (r3, P_3) =>
  some (.inl r3, N_2, E_2, F_1, P_3, (k_2, n_2)))
  | (.inr e2, N_2, E_2, (k_2, n_2)) =>
  (some (.inr e2, N_2, E_2, F_1, P, (k_2, n_2))))
  | (.inr e1, N_1, E_1, F_1, (k_1, n_1)) =>
  (some (.inr e1, N_1, E_1, F_1, P, (k_1, n_1)))
set_option maxHeartbeats 4000000 in
set_option maxRecDepth 100000 in
theorem ok_fJ_reduce {fl d : Nat} {N : cN} {C : cC} {E : cE} {F : cF} {P : cP} {Q : cQ} {k n : Nat} {p1 p2 : Int32} {rv : (Int32) ⊕ Nat} {N' : cN} {E' : cE} {F' : cF} {P' : cP} {k' n' : Nat} (h : fJ_reduce fl d N C E F P k n p1 p2 = some (rv, N', E', F', P', (k', n'))) (D : Nat) (hD : d + 5 ≤ D) : am_Call D 59 [.ref 0, .int p1, .int p2] (W9 N C E F P Q) k n (am_oI rv, W9 N' C E' F' P' Q, k', n') := by
  unfold fJ_reduce at h
  obtain ⟨D, rfl⟩ : ∃ D', D = D' + 1 := ⟨D - 1, by omega⟩
  have hD : d + 4 ≤ D := by omega
  refine am_call_run (by decide) (by decide) rfl (Nat.le_of_ble_eq_true rfl) (by decide) (L := [(0, .ref 0), (1, .int p1), (2, .int p2)]) rfl ?_
  refine am_ev_st 4 (f' := (4, [(0, .ref 0), (1, .int p1), (2, .int p2)], [.int p2, .int p1, .int p1, .ref 0], (W9 N C E F P Q), k, n)) (g := True ∧ True ∧ True ∧ True ∧ True) (by with_unfolding_all rfl) ⟨trivial, trivial, trivial, trivial, trivial⟩ ?_
  replace h := Option.bind_eq_some_iff.mp h
  obtain ⟨⟨⟨⟩ | e1, N_1, E_1, F_1, ⟨k_1, n_1⟩⟩, hc1, h⟩ := h
  · dsimp only at h
    refine am_ev_call (.invokevirtual 86) 71 6 420 [.ref 0, .int p1, .int p1, .int p2] [] rfl rfl rfl rfl (ok_fJ_begin hc1 D (by omega)) rfl ?_
    refine am_ev_st 7 (f' := (20, [(0, .ref 0), (1, .int p1), (2, .int p2)], [.int p1, .ref 10, .ref 1, .ref 15], (W9 N_1 C E_1 F_1 P Q), k_1, n_1)) (g := True ∧ True ∧ True ∧ True ∧ True ∧ True ∧ True ∧ True) (by with_unfolding_all rfl) ⟨trivial, trivial, trivial, trivial, trivial, trivial, trivial, trivial⟩ ?_
    replace h := Option.bind_eq_some_iff.mp h
    obtain ⟨⟨r2 | e2, N_2, E_2, ⟨k_2, n_2⟩⟩, hc2, h⟩ := h
    · dsimp only at h
      refine am_ev_call (.invokevirtual 97) 48 2 580 [.ref 10, .int p1] [.ref 1, .ref 15] rfl rfl rfl rfl (ok_fE_headForm hc2 D (by omega)) rfl ?_
      replace h := Option.bind_eq_some_iff.mp h
      obtain ⟨⟨r3, P_3⟩, hc3, h⟩ := h
      try dsimp only at h
      refine am_ev_call (.invokevirtual 93) 21 4 252 [.ref 15, .ref 1, .int r2] [] rfl rfl rfl rfl (ok_fM_write_P hc3 D (by omega)) rfl ?_
      cases h
      exact am_ev_ret 0 0 0 rfl .int rfl rfl rfl
    · dsimp only at h
      cases h
      exact am_ev_callx (.invokevirtual 97) 48 2 580 [.ref 10, .int p1] [.ref 1, .ref 15] rfl rfl rfl rfl (ok_fE_headForm hc2 D (by omega)) rfl rfl rfl
  · dsimp only at h
    cases h
    exact am_ev_callx (.invokevirtual 86) 71 6 420 [.ref 0, .int p1, .int p1, .int p2] [] rfl rfl rfl rfl (ok_fJ_begin hc1 D (by omega)) rfl rfl rfl
def fL_reduce (fl : Nat) (d : Nat) (N : cN) (C : cC) (E : cE) (F : cF) (P : cP) (k n : Nat) (p2 p3 : Int32) : Option (Int32 × cN × cE × cF × cP × (Nat × Nat)) :=
  (fJ_reduce fl d N C E F P k n p2 p3).bind fun z1 =>
  match z1 with
  | (.inl r1, N_1, E_1, F_1, P_1, (k_1, n_1)) =>
  (some (r1, N_1, E_1, F_1, P_1, (k_1, n_1)))
  | (.inr e1, N_1, E_1, F_1, P_1, (k_1, n_1)) =>
  (if e1 = 0 then
  (some ((-1 : Int32), N_1, E_1, F_1, P_1, (k_1, n_1)))
  else
  if e1 = 2 then
  (some ((-3 : Int32), N_1, E_1, F_1, P_1, (k_1, n_1)))
  else
  none)
set_option maxHeartbeats 4000000 in
set_option maxRecDepth 100000 in
theorem ok_fL_reduce {fl d : Nat} {N : cN} {C : cC} {E : cE} {F : cF} {P : cP} {Q : cQ} {k n : Nat} {p2 p3 : Int32} {rv : Int32} {N' : cN} {E' : cE} {F' : cF} {P' : cP} {k' n' : Nat} (h : fL_reduce fl d N C E F P k n p2 p3 = some (rv, N', E', F', P', (k', n'))) (D : Nat) (hD : d + 6 ≤ D) : am_Call D 75 [.ref 0, .int p2, .int p3] (W9 N C E F P Q) k n (.inl (some (.int rv)), W9 N' C E' F' P' Q, k', n') := by
  unfold fL_reduce at h
  obtain ⟨D, rfl⟩ : ∃ D', D = D' + 1 := ⟨D - 1, by omega⟩
  have hD : d + 5 ≤ D := by omega
  refine am_call_run (by decide) (by decide) rfl (Nat.le_of_ble_eq_true rfl) (by decide) (L := [(0, .ref 0), (1, .int p2), (2, .int p3)]) rfl ?_
  refine am_ev_st 3 (f' := (3, [(0, .ref 0), (1, .int p2), (2, .int p3)], [.int p3, .int p2, .ref 0], (W9 N C E F P Q), k, n)) (g := True ∧ True ∧ True ∧ True) (by with_unfolding_all rfl) ⟨trivial, trivial, trivial, trivial⟩ ?_
  replace h := Option.bind_eq_some_iff.mp h
  obtain ⟨⟨r1 | e1, N_1, E_1, F_1, P_1, ⟨k_1, n_1⟩⟩, hc1, h⟩ := h
  · dsimp only at h
    refine am_ev_call (.invokevirtual 19) 59 4 576 [.ref 0, .int p2, .int p3] [] rfl rfl rfl rfl (ok_fJ_reduce hc1 D (by omega)) rfl ?_
    cases h
    exact am_ev_ret 0 0 0 rfl .int rfl rfl rfl
  · dsimp only at h
    by_cases c2 : e1 = 0
    · rw [if_pos c2] at h
      subst c2
      refine am_ev_catch (.invokevirtual 19) 59 4 576 [.ref 0, .int p2, .int p3] [] rfl rfl rfl rfl (ok_fJ_reduce hc1 D (by omega)) rfl 7 rfl rfl ?_
      refine am_ev_st 2 (f' := (9, [(3, .retAddr 1), (0, .ref 0), (1, .int p2), (2, .int p3)], [.int (-1 : Int32)], (W9 N_1 C E_1 F_1 P_1 Q), k_1, n_1)) (g := True ∧ True ∧ True) (by with_unfolding_all rfl) ⟨trivial, trivial, trivial⟩ ?_
      cases h
      exact am_ev_ret 0 0 0 rfl .int rfl rfl rfl
    rw [if_neg c2] at h
    by_cases c3 : e1 = 2
    · rw [if_pos c3] at h
      subst c3
      refine am_ev_catch (.invokevirtual 19) 59 4 576 [.ref 0, .int p2, .int p3] [] rfl rfl rfl rfl (ok_fJ_reduce hc1 D (by omega)) rfl 10 rfl rfl ?_
      refine am_ev_st 2 (f' := (13, [(3, .retAddr 1), (0, .ref 0), (1, .int p2), (2, .int p3)], [.int (-3 : Int32)], (W9 N_1 C E_1 F_1 P_1 Q), k_1, n_1)) (g := True ∧ True ∧ True) (by with_unfolding_all rfl) ⟨trivial, trivial, trivial⟩ ?_
      cases h
      exact am_ev_ret 0 0 0 rfl .int rfl rfl rfl
    rw [if_neg c3] at h
    cases h
def fJ_same (fl : Nat) (d : Nat) (N : cN) (C : cC) (E : cE) (F : cF) (k n : Nat) (p1 p2 p3 : Int32) : Option (((Bool) ⊕ Nat) × cN × cE × cF × (Nat × Nat)) :=
  (fJ_begin N E F k n p1 p2 p3).bind fun z1 =>
  match z1 with
  | (.inl (), N_1, E_1, F_1, (k_1, n_1)) =>
  ((fE_areSame fl d N_1 C E_1 k_1 n_1 p1 p2).bind fun z2 =>
  match z2 with
  | (.inl r2, N_2, E_2, (k_2, n_2)) =>
  (some (.inl r2, N_2, E_2, F_1, (k_2, n_2)))
  | (.inr e2, N_2, E_2, (k_2, n_2)) =>
  (some (.inr e2, N_2, E_2, F_1, (k_2, n_2))))
  | (.inr e1, N_1, E_1, F_1, (k_1, n_1)) =>
  (some (.inr e1, N_1, E_1, F_1, (k_1, n_1)))
set_option maxHeartbeats 4000000 in
set_option maxRecDepth 100000 in
theorem ok_fJ_same {fl d : Nat} {N : cN} {C : cC} {E : cE} {F : cF} {P : cP} {Q : cQ} {k n : Nat} {p1 p2 p3 : Int32} {rv : (Bool) ⊕ Nat} {N' : cN} {E' : cE} {F' : cF} {k' n' : Nat} (h : fJ_same fl d N C E F k n p1 p2 p3 = some (rv, N', E', F', (k', n'))) (D : Nat) (hD : d + 6 ≤ D) : am_Call D 60 [.ref 0, .int p1, .int p2, .int p3] (W9 N C E F P Q) k n (am_oB rv, W9 N' C E' F' P Q, k', n') := by
  unfold fJ_same at h
  obtain ⟨D, rfl⟩ : ∃ D', D = D' + 1 := ⟨D - 1, by omega⟩
  have hD : d + 5 ≤ D := by omega
  refine am_call_run (by decide) (by decide) rfl (Nat.le_of_ble_eq_true rfl) (by decide) (L := [(0, .ref 0), (1, .int p1), (2, .int p2), (3, .int p3)]) rfl ?_
  refine am_ev_st 4 (f' := (4, [(0, .ref 0), (1, .int p1), (2, .int p2), (3, .int p3)], [.int p3, .int p2, .int p1, .ref 0], (W9 N C E F P Q), k, n)) (g := True ∧ True ∧ True ∧ True ∧ True) (by with_unfolding_all rfl) ⟨trivial, trivial, trivial, trivial, trivial⟩ ?_
  replace h := Option.bind_eq_some_iff.mp h
  obtain ⟨⟨⟨⟩ | e1, N_1, E_1, F_1, ⟨k_1, n_1⟩⟩, hc1, h⟩ := h
  · dsimp only at h
    refine am_ev_call (.invokevirtual 86) 71 6 420 [.ref 0, .int p1, .int p2, .int p3] [] rfl rfl rfl rfl (ok_fJ_begin hc1 D (by omega)) rfl ?_
    refine am_ev_st 4 (f' := (13, [(0, .ref 0), (1, .int p1), (2, .int p2), (3, .int p3)], [.int p2, .int p1, .ref 10], (W9 N_1 C E_1 F_1 P Q), k_1, n_1)) (g := True ∧ True ∧ True ∧ True ∧ True) (by with_unfolding_all rfl) ⟨trivial, trivial, trivial, trivial, trivial⟩ ?_
    replace h := Option.bind_eq_some_iff.mp h
    obtain ⟨⟨r2 | e2, N_2, E_2, ⟨k_2, n_2⟩⟩, hc2, h⟩ := h
    · dsimp only at h
      refine am_ev_call (.invokevirtual 100) 50 4 588 [.ref 10, .int p1, .int p2] [] rfl rfl rfl rfl (ok_fE_areSame hc2 D (by omega)) rfl ?_
      cases h
      exact am_ev_ret 0 0 0 rfl .boolean rfl (am_bz_nar _) rfl
    · dsimp only at h
      cases h
      exact am_ev_callx (.invokevirtual 100) 50 4 588 [.ref 10, .int p1, .int p2] [] rfl rfl rfl rfl (ok_fE_areSame hc2 D (by omega)) rfl rfl rfl
  · dsimp only at h
    cases h
    exact am_ev_callx (.invokevirtual 86) 71 6 420 [.ref 0, .int p1, .int p2, .int p3] [] rfl rfl rfl rfl (ok_fJ_begin hc1 D (by omega)) rfl rfl rfl
def fL_same (fl : Nat) (d : Nat) (N : cN) (C : cC) (E : cE) (F : cF) (k n : Nat) (p2 p3 p4 : Int32) : Option (Int32 × cN × cE × cF × (Nat × Nat)) :=
  (fJ_same fl d N C E F k n p2 p3 p4).bind fun z1 =>
  match z1 with
  | (.inl r1, N_1, E_1, F_1, (k_1, n_1)) =>
  (if (am_bz r1) = 0 then
  (some ((0 : Int32), N_1, E_1, F_1, (k_1, n_1)))
  else
  some ((1 : Int32), N_1, E_1, F_1, (k_1, n_1)))
  | (.inr e1, N_1, E_1, F_1, (k_1, n_1)) =>
  (if e1 = 0 then
  (some ((-1 : Int32), N_1, E_1, F_1, (k_1, n_1)))
  else
  if e1 = 2 then
  (some ((-3 : Int32), N_1, E_1, F_1, (k_1, n_1)))
  else
  none)
set_option maxHeartbeats 4000000 in
set_option maxRecDepth 100000 in
theorem ok_fL_same {fl d : Nat} {N : cN} {C : cC} {E : cE} {F : cF} {P : cP} {Q : cQ} {k n : Nat} {p2 p3 p4 : Int32} {rv : Int32} {N' : cN} {E' : cE} {F' : cF} {k' n' : Nat} (h : fL_same fl d N C E F k n p2 p3 p4 = some (rv, N', E', F', (k', n'))) (D : Nat) (hD : d + 7 ≤ D) : am_Call D 76 [.ref 0, .int p2, .int p3, .int p4] (W9 N C E F P Q) k n (.inl (some (.int rv)), W9 N' C E' F' P Q, k', n') := by
  unfold fL_same at h
  obtain ⟨D, rfl⟩ : ∃ D', D = D' + 1 := ⟨D - 1, by omega⟩
  have hD : d + 6 ≤ D := by omega
  refine am_call_run (by decide) (by decide) rfl (Nat.le_of_ble_eq_true rfl) (by decide) (L := [(0, .ref 0), (1, .int p2), (2, .int p3), (3, .int p4)]) rfl ?_
  refine am_ev_st 4 (f' := (4, [(0, .ref 0), (1, .int p2), (2, .int p3), (3, .int p4)], [.int p4, .int p3, .int p2, .ref 0], (W9 N C E F P Q), k, n)) (g := True ∧ True ∧ True ∧ True ∧ True) (by with_unfolding_all rfl) ⟨trivial, trivial, trivial, trivial, trivial⟩ ?_
  replace h := Option.bind_eq_some_iff.mp h
  obtain ⟨⟨r1 | e1, N_1, E_1, F_1, ⟨k_1, n_1⟩⟩, hc1, h⟩ := h
  · dsimp only at h
    refine am_ev_call (.invokevirtual 22) 60 6 584 [.ref 0, .int p2, .int p3, .int p4] [] rfl rfl rfl rfl (ok_fJ_same hc1 D (by omega)) rfl ?_
    refine am_ev_st 1 (f' := am_br ((am_bz r1) = 0) 14 7 [(0, .ref 0), (1, .int p2), (2, .int p3), (3, .int p4)] [] (W9 N_1 C E_1 F_1 P Q) k_1 n_1) (g := True ∧ True) (by with_unfolding_all rfl) ⟨trivial, trivial⟩ ?_
    by_cases c2 : (am_bz r1) = 0
    · rw [if_pos c2] at h
      refine am_ev_pos c2 ?_
      refine am_ev_st 1 (f' := (15, [(0, .ref 0), (1, .int p2), (2, .int p3), (3, .int p4)], [.int (0 : Int32)], (W9 N_1 C E_1 F_1 P Q), k_1, n_1)) (g := True ∧ True) (by with_unfolding_all rfl) ⟨trivial, trivial⟩ ?_
      cases h
      exact am_ev_ret 0 0 0 rfl .int rfl rfl rfl
    · rw [if_neg c2] at h
      refine am_ev_neg c2 ?_
      refine am_ev_st 2 (f' := (15, [(0, .ref 0), (1, .int p2), (2, .int p3), (3, .int p4)], [.int (1 : Int32)], (W9 N_1 C E_1 F_1 P Q), k_1, n_1)) (g := True ∧ True ∧ True) (by with_unfolding_all rfl) ⟨trivial, trivial, trivial⟩ ?_
      cases h
      exact am_ev_ret 0 0 0 rfl .int rfl rfl rfl
  · dsimp only at h
    by_cases c3 : e1 = 0
    · rw [if_pos c3] at h
      subst c3
      refine am_ev_catch (.invokevirtual 22) 60 6 584 [.ref 0, .int p2, .int p3, .int p4] [] rfl rfl rfl rfl (ok_fJ_same hc1 D (by omega)) rfl 16 rfl rfl ?_
      refine am_ev_st 2 (f' := (19, [(4, .retAddr 1), (0, .ref 0), (1, .int p2), (2, .int p3), (3, .int p4)], [.int (-1 : Int32)], (W9 N_1 C E_1 F_1 P Q), k_1, n_1)) (g := True ∧ True ∧ True) (by with_unfolding_all rfl) ⟨trivial, trivial, trivial⟩ ?_
      cases h
      exact am_ev_ret 0 0 0 rfl .int rfl rfl rfl
    rw [if_neg c3] at h
    by_cases c4 : e1 = 2
    · rw [if_pos c4] at h
      subst c4
      refine am_ev_catch (.invokevirtual 22) 60 6 584 [.ref 0, .int p2, .int p3, .int p4] [] rfl rfl rfl rfl (ok_fJ_same hc1 D (by omega)) rfl 20 rfl rfl ?_
      refine am_ev_st 2 (f' := (24, [(4, .retAddr 1), (0, .ref 0), (1, .int p2), (2, .int p3), (3, .int p4)], [.int (-3 : Int32)], (W9 N_1 C E_1 F_1 P Q), k_1, n_1)) (g := True ∧ True ∧ True) (by with_unfolding_all rfl) ⟨trivial, trivial, trivial⟩ ?_
      cases h
      exact am_ev_ret 0 0 0 rfl .int rfl rfl rfl
    rw [if_neg c4] at h
    cases h
def fJ_check (fl : Nat) (d : Nat) (N : cN) (C : cC) (E : cE) (F : cF) (k n : Nat) (p1 p2 p3 : Int32) : Option (((Bool) ⊕ Nat) × cN × cE × cF × (Nat × Nat)) :=
  (fJ_begin N E F k n p1 p2 p3).bind fun z1 =>
  match z1 with
  | (.inl (), N_1, E_1, F_1, (k_1, n_1)) =>
  ((fF_typeFound fl d N_1 C E_1 F_1 k_1 n_1 p2).bind fun z2 =>
  match z2 with
  | (.inl r2, N_2, E_2, F_2, (k_2, n_2)) =>
  ((fF_levelOf fl d N_2 C E_2 k_2 n_2 r2).bind fun z3 =>
  match z3 with
  | (.inl r3, N_3, E_3, (k_3, n_3)) =>
  ((fF_typeFound fl d N_3 C E_3 F_2 k_3 n_3 p1).bind fun z4 =>
  match z4 with
  | (.inl r4, N_4, E_4, F_4, (k_4, n_4)) =>
  ((fE_areSame fl d N_4 C E_4 k_4 n_4 r4 p2).bind fun z5 =>
  match z5 with
  | (.inl r5, N_5, E_5, (k_5, n_5)) =>
  (some (.inl r5, N_5, E_5, F_4, (k_5, n_5)))
  | (.inr e5, N_5, E_5, (k_5, n_5)) =>
  (some (.inr e5, N_5, E_5, F_4, (k_5, n_5))))
  | (.inr e4, N_4, E_4, F_4, (k_4, n_4)) =>
  (some (.inr e4, N_4, E_4, F_4, (k_4, n_4))))
  | (.inr e3, N_3, E_3, (k_3, n_3)) =>
  (some (.inr e3, N_3, E_3, F_2, (k_3, n_3))))
  | (.inr e2, N_2, E_2, F_2, (k_2, n_2)) =>
  (some (.inr e2, N_2, E_2, F_2, (k_2, n_2))))
  | (.inr e1, N_1, E_1, F_1, (k_1, n_1)) =>
  (some (.inr e1, N_1, E_1, F_1, (k_1, n_1)))
set_option maxHeartbeats 4000000 in
set_option maxRecDepth 100000 in
theorem ok_fJ_check {fl d : Nat} {N : cN} {C : cC} {E : cE} {F : cF} {P : cP} {Q : cQ} {k n : Nat} {p1 p2 p3 : Int32} {rv : (Bool) ⊕ Nat} {N' : cN} {E' : cE} {F' : cF} {k' n' : Nat} (h : fJ_check fl d N C E F k n p1 p2 p3 = some (rv, N', E', F', (k', n'))) (D : Nat) (hD : d + 6 ≤ D) : am_Call D 61 [.ref 0, .int p1, .int p2, .int p3] (W9 N C E F P Q) k n (am_oB rv, W9 N' C E' F' P Q, k', n') := by
  unfold fJ_check at h
  obtain ⟨D, rfl⟩ : ∃ D', D = D' + 1 := ⟨D - 1, by omega⟩
  have hD : d + 5 ≤ D := by omega
  refine am_call_run (by decide) (by decide) rfl (Nat.le_of_ble_eq_true rfl) (by decide) (L := [(0, .ref 0), (1, .int p1), (2, .int p2), (3, .int p3)]) rfl ?_
  refine am_ev_st 4 (f' := (4, [(0, .ref 0), (1, .int p1), (2, .int p2), (3, .int p3)], [.int p3, .int p2, .int p1, .ref 0], (W9 N C E F P Q), k, n)) (g := True ∧ True ∧ True ∧ True ∧ True) (by with_unfolding_all rfl) ⟨trivial, trivial, trivial, trivial, trivial⟩ ?_
  replace h := Option.bind_eq_some_iff.mp h
  obtain ⟨⟨⟨⟩ | e1, N_1, E_1, F_1, ⟨k_1, n_1⟩⟩, hc1, h⟩ := h
  · dsimp only at h
    refine am_ev_call (.invokevirtual 86) 71 6 420 [.ref 0, .int p1, .int p2, .int p3] [] rfl rfl rfl rfl (ok_fJ_begin hc1 D (by omega)) rfl ?_
    refine am_ev_st 5 (f' := (16, [(0, .ref 0), (1, .int p1), (2, .int p2), (3, .int p3)], [.int p2, .ref 13, .ref 13], (W9 N_1 C E_1 F_1 P Q), k_1, n_1)) (g := True ∧ True ∧ True ∧ True ∧ True ∧ True) (by with_unfolding_all rfl) ⟨trivial, trivial, trivial, trivial, trivial, trivial⟩ ?_
    replace h := Option.bind_eq_some_iff.mp h
    obtain ⟨⟨r2 | e2, N_2, E_2, F_2, ⟨k_2, n_2⟩⟩, hc2, h⟩ := h
    · dsimp only at h
      refine am_ev_call (.invokevirtual 90) 9 2 452 [.ref 13, .int p2] [.ref 13] rfl rfl rfl rfl (ok_fF_typeFound hc2 D (by omega)) rfl ?_
      replace h := Option.bind_eq_some_iff.mp h
      obtain ⟨⟨r3 | e3, N_3, E_3, ⟨k_3, n_3⟩⟩, hc3, h⟩ := h
      · dsimp only at h
        refine am_ev_call (.invokevirtual 104) 10 2 596 [.ref 13, .int r2] [] rfl rfl rfl rfl (ok_fF_levelOf hc3 D (by omega)) rfl ?_
        refine am_ev_st 6 (f' := (32, [(0, .ref 0), (1, .int p1), (2, .int p2), (3, .int p3)], [.int p1, .ref 13, .ref 10], (W9 N_3 C E_3 F_2 P Q), k_3, n_3)) (g := True ∧ True ∧ True ∧ True ∧ True ∧ True ∧ True) (by with_unfolding_all rfl) ⟨trivial, trivial, trivial, trivial, trivial, trivial, trivial⟩ ?_
        replace h := Option.bind_eq_some_iff.mp h
        obtain ⟨⟨r4 | e4, N_4, E_4, F_4, ⟨k_4, n_4⟩⟩, hc4, h⟩ := h
        · dsimp only at h
          refine am_ev_call (.invokevirtual 90) 9 2 452 [.ref 13, .int p1] [.ref 10] rfl rfl rfl rfl (ok_fF_typeFound hc4 D (by omega)) rfl ?_
          refine am_ev_st 1 (f' := (36, [(0, .ref 0), (1, .int p1), (2, .int p2), (3, .int p3)], [.int p2, .int r4, .ref 10], (W9 N_4 C E_4 F_4 P Q), k_4, n_4)) (g := True ∧ True) (by with_unfolding_all rfl) ⟨trivial, trivial⟩ ?_
          replace h := Option.bind_eq_some_iff.mp h
          obtain ⟨⟨r5 | e5, N_5, E_5, ⟨k_5, n_5⟩⟩, hc5, h⟩ := h
          · dsimp only at h
            refine am_ev_call (.invokevirtual 100) 50 4 588 [.ref 10, .int r4, .int p2] [] rfl rfl rfl rfl (ok_fE_areSame hc5 D (by omega)) rfl ?_
            cases h
            exact am_ev_ret 0 0 0 rfl .boolean rfl (am_bz_nar _) rfl
          · dsimp only at h
            cases h
            exact am_ev_callx (.invokevirtual 100) 50 4 588 [.ref 10, .int r4, .int p2] [] rfl rfl rfl rfl (ok_fE_areSame hc5 D (by omega)) rfl rfl rfl
        · dsimp only at h
          cases h
          exact am_ev_callx (.invokevirtual 90) 9 2 452 [.ref 13, .int p1] [.ref 10] rfl rfl rfl rfl (ok_fF_typeFound hc4 D (by omega)) rfl rfl rfl
      · dsimp only at h
        cases h
        exact am_ev_callx (.invokevirtual 104) 10 2 596 [.ref 13, .int r2] [] rfl rfl rfl rfl (ok_fF_levelOf hc3 D (by omega)) rfl rfl rfl
    · dsimp only at h
      cases h
      exact am_ev_callx (.invokevirtual 90) 9 2 452 [.ref 13, .int p2] [.ref 13] rfl rfl rfl rfl (ok_fF_typeFound hc2 D (by omega)) rfl rfl rfl
  · dsimp only at h
    cases h
    exact am_ev_callx (.invokevirtual 86) 71 6 420 [.ref 0, .int p1, .int p2, .int p3] [] rfl rfl rfl rfl (ok_fJ_begin hc1 D (by omega)) rfl rfl rfl
def fL_check (fl : Nat) (d : Nat) (N : cN) (C : cC) (E : cE) (F : cF) (k n : Nat) (p2 p3 p4 : Int32) : Option (Int32 × cN × cE × cF × (Nat × Nat)) :=
  (fJ_check fl d N C E F k n p2 p3 p4).bind fun z1 =>
  match z1 with
  | (.inl r1, N_1, E_1, F_1, (k_1, n_1)) =>
  (if (am_bz r1) = 0 then
  (some ((0 : Int32), N_1, E_1, F_1, (k_1, n_1)))
  else
  some ((1 : Int32), N_1, E_1, F_1, (k_1, n_1)))
  | (.inr e1, N_1, E_1, F_1, (k_1, n_1)) =>
  (if e1 = 0 then
  (some ((-1 : Int32), N_1, E_1, F_1, (k_1, n_1)))
  else
  if e1 = 1 then
  (some ((-2 : Int32), N_1, E_1, F_1, (k_1, n_1)))
  else
  if e1 = 2 then
  (some ((-3 : Int32), N_1, E_1, F_1, (k_1, n_1)))
  else
  none)
set_option maxHeartbeats 4000000 in
set_option maxRecDepth 100000 in
theorem ok_fL_check {fl d : Nat} {N : cN} {C : cC} {E : cE} {F : cF} {P : cP} {Q : cQ} {k n : Nat} {p2 p3 p4 : Int32} {rv : Int32} {N' : cN} {E' : cE} {F' : cF} {k' n' : Nat} (h : fL_check fl d N C E F k n p2 p3 p4 = some (rv, N', E', F', (k', n'))) (D : Nat) (hD : d + 7 ≤ D) : am_Call D 77 [.ref 0, .int p2, .int p3, .int p4] (W9 N C E F P Q) k n (.inl (some (.int rv)), W9 N' C E' F' P Q, k', n') := by
  unfold fL_check at h
  obtain ⟨D, rfl⟩ : ∃ D', D = D' + 1 := ⟨D - 1, by omega⟩
  have hD : d + 6 ≤ D := by omega
  refine am_call_run (by decide) (by decide) rfl (Nat.le_of_ble_eq_true rfl) (by decide) (L := [(0, .ref 0), (1, .int p2), (2, .int p3), (3, .int p4)]) rfl ?_
  refine am_ev_st 4 (f' := (4, [(0, .ref 0), (1, .int p2), (2, .int p3), (3, .int p4)], [.int p4, .int p3, .int p2, .ref 0], (W9 N C E F P Q), k, n)) (g := True ∧ True ∧ True ∧ True ∧ True) (by with_unfolding_all rfl) ⟨trivial, trivial, trivial, trivial, trivial⟩ ?_
  replace h := Option.bind_eq_some_iff.mp h
  obtain ⟨⟨r1 | e1, N_1, E_1, F_1, ⟨k_1, n_1⟩⟩, hc1, h⟩ := h
  · dsimp only at h
    refine am_ev_call (.invokevirtual 26) 61 6 592 [.ref 0, .int p2, .int p3, .int p4] [] rfl rfl rfl rfl (ok_fJ_check hc1 D (by omega)) rfl ?_
    refine am_ev_st 1 (f' := am_br ((am_bz r1) = 0) 14 7 [(0, .ref 0), (1, .int p2), (2, .int p3), (3, .int p4)] [] (W9 N_1 C E_1 F_1 P Q) k_1 n_1) (g := True ∧ True) (by with_unfolding_all rfl) ⟨trivial, trivial⟩ ?_
    by_cases c2 : (am_bz r1) = 0
    · rw [if_pos c2] at h
      refine am_ev_pos c2 ?_
      refine am_ev_st 1 (f' := (15, [(0, .ref 0), (1, .int p2), (2, .int p3), (3, .int p4)], [.int (0 : Int32)], (W9 N_1 C E_1 F_1 P Q), k_1, n_1)) (g := True ∧ True) (by with_unfolding_all rfl) ⟨trivial, trivial⟩ ?_
      cases h
      exact am_ev_ret 0 0 0 rfl .int rfl rfl rfl
    · rw [if_neg c2] at h
      refine am_ev_neg c2 ?_
      refine am_ev_st 2 (f' := (15, [(0, .ref 0), (1, .int p2), (2, .int p3), (3, .int p4)], [.int (1 : Int32)], (W9 N_1 C E_1 F_1 P Q), k_1, n_1)) (g := True ∧ True ∧ True) (by with_unfolding_all rfl) ⟨trivial, trivial, trivial⟩ ?_
      cases h
      exact am_ev_ret 0 0 0 rfl .int rfl rfl rfl
  · dsimp only at h
    by_cases c3 : e1 = 0
    · rw [if_pos c3] at h
      subst c3
      refine am_ev_catch (.invokevirtual 26) 61 6 592 [.ref 0, .int p2, .int p3, .int p4] [] rfl rfl rfl rfl (ok_fJ_check hc1 D (by omega)) rfl 16 rfl rfl ?_
      refine am_ev_st 2 (f' := (19, [(4, .retAddr 1), (0, .ref 0), (1, .int p2), (2, .int p3), (3, .int p4)], [.int (-1 : Int32)], (W9 N_1 C E_1 F_1 P Q), k_1, n_1)) (g := True ∧ True ∧ True) (by with_unfolding_all rfl) ⟨trivial, trivial, trivial⟩ ?_
      cases h
      exact am_ev_ret 0 0 0 rfl .int rfl rfl rfl
    rw [if_neg c3] at h
    by_cases c4 : e1 = 1
    · rw [if_pos c4] at h
      subst c4
      refine am_ev_catch (.invokevirtual 26) 61 6 592 [.ref 0, .int p2, .int p3, .int p4] [] rfl rfl rfl rfl (ok_fJ_check hc1 D (by omega)) rfl 20 rfl rfl ?_
      refine am_ev_st 2 (f' := (24, [(4, .retAddr 1), (0, .ref 0), (1, .int p2), (2, .int p3), (3, .int p4)], [.int (-2 : Int32)], (W9 N_1 C E_1 F_1 P Q), k_1, n_1)) (g := True ∧ True ∧ True) (by with_unfolding_all rfl) ⟨trivial, trivial, trivial⟩ ?_
      cases h
      exact am_ev_ret 0 0 0 rfl .int rfl rfl rfl
    rw [if_neg c4] at h
    by_cases c5 : e1 = 2
    · rw [if_pos c5] at h
      subst c5
      refine am_ev_catch (.invokevirtual 26) 61 6 592 [.ref 0, .int p2, .int p3, .int p4] [] rfl rfl rfl rfl (ok_fJ_check hc1 D (by omega)) rfl 25 rfl rfl ?_
      refine am_ev_st 2 (f' := (29, [(4, .retAddr 1), (0, .ref 0), (1, .int p2), (2, .int p3), (3, .int p4)], [.int (-3 : Int32)], (W9 N_1 C E_1 F_1 P Q), k_1, n_1)) (g := True ∧ True ∧ True) (by with_unfolding_all rfl) ⟨trivial, trivial, trivial⟩ ?_
      cases h
      exact am_ev_ret 0 0 0 rfl .int rfl rfl rfl
    rw [if_neg c5] at h
    cases h
def fC_isFull (C : cC) : Option (Bool) :=
  match C with
  | (ct, cb, cm) =>
  if cm < (16 : Int32) then
  (some false)
  else
  some true
set_option maxHeartbeats 4000000 in
set_option maxRecDepth 100000 in
theorem ok_fC_isFull  {N : cN} {C : cC} {E : cE} {F : cF} {P : cP} {Q : cQ} {k n : Nat} {rv : Bool} (h : fC_isFull C = some rv) (D : Nat) (hD : 1 ≤ D) : am_Call D 2 [.ref 7] (W9 N C E F P Q) k n (.inl (some (.int (am_bz rv))), W9 N C E F P Q, k, n) := by
  unfold fC_isFull at h
  obtain ⟨D, rfl⟩ : ∃ D', D = D' + 1 := ⟨D - 1, by omega⟩
  have hD : 0 ≤ D := by omega
  refine am_call_run (by decide) (by decide) rfl (Nat.le_of_ble_eq_true rfl) (by decide) (L := [(0, .ref 7)]) rfl ?_
  obtain ⟨ct, cb, cm⟩ := C
  try dsimp only at h
  refine am_ev_st 4 (f' := am_br (cm < (16 : Int32)) 13 6 [(0, .ref 7)] [] (W9 N (ct, cb, cm) E F P Q) k n) (g := True ∧ True ∧ True ∧ True ∧ True) (by with_unfolding_all rfl) ⟨trivial, trivial, trivial, trivial, trivial⟩ ?_
  by_cases c1 : cm < (16 : Int32)
  · rw [if_pos c1] at h
    refine am_ev_pos c1 ?_
    refine am_ev_st 1 (f' := (14, [(0, .ref 7)], [.int (0 : Int32)], (W9 N (ct, cb, cm) E F P Q), k, n)) (g := True ∧ True) (by with_unfolding_all rfl) ⟨trivial, trivial⟩ ?_
    cases h
    exact am_ev_ret 0 0 0 rfl .boolean rfl am_n0 rfl
  · rw [if_neg c1] at h
    refine am_ev_neg c1 ?_
    refine am_ev_st 2 (f' := (14, [(0, .ref 7)], [.int (1 : Int32)], (W9 N (ct, cb, cm) E F P Q), k, n)) (g := True ∧ True ∧ True) (by with_unfolding_all rfl) ⟨trivial, trivial, trivial⟩ ?_
    cases h
    exact am_ev_ret 0 0 0 rfl .boolean rfl am_n1 rfl
def fM_at_Q (Q : cQ) (p1 : Int32) : Option (Int32) :=
  if p1 < 0 then
  (some (-1 : Int32))
  else
  match Q with
  | (qr, ql, qx) =>
  if ql ≤ p1 then
  (some (-1 : Int32))
  else
  if (60 : Int32) ≤ p1 then
  (some (-1 : Int32))
  else
  if (p1 < 0 ∨ 60 ≤ (p1).toNatClampNeg) then none else
  some (qr (p1).toNatClampNeg)
set_option maxHeartbeats 4000000 in
set_option maxRecDepth 100000 in
theorem ok_fM_at_Q  {N : cN} {C : cC} {E : cE} {F : cF} {P : cP} {Q : cQ} {k n : Nat} {p1 : Int32} {rv : Int32} (h : fM_at_Q Q p1 = some rv) (D : Nat) (hD : 1 ≤ D) : am_Call D 19 [.ref 17, .int p1] (W9 N C E F P Q) k n (.inl (some (.int rv)), W9 N C E F P Q, k, n) := by
  unfold fM_at_Q at h
  obtain ⟨D, rfl⟩ : ∃ D', D = D' + 1 := ⟨D - 1, by omega⟩
  have hD : 0 ≤ D := by omega
  refine am_call_run (by decide) (by decide) rfl (Nat.le_of_ble_eq_true rfl) (by decide) (L := [(0, .ref 17), (1, .int p1)]) rfl ?_
  refine am_ev_st 2 (f' := am_br (p1 < 0) 27 1 [(0, .ref 17), (1, .int p1)] [] (W9 N C E F P Q) k n) (g := True ∧ True ∧ True) (by with_unfolding_all rfl) ⟨trivial, trivial, trivial⟩ ?_
  by_cases c1 : p1 < 0
  · rw [if_pos c1] at h
    refine am_ev_pos c1 ?_
    refine am_ev_st 1 (f' := (28, [(0, .ref 17), (1, .int p1)], [.int (-1 : Int32)], (W9 N C E F P Q), k, n)) (g := True ∧ True) (by with_unfolding_all rfl) ⟨trivial, trivial⟩ ?_
    cases h
    exact am_ev_ret 0 0 0 rfl .int rfl rfl rfl
  · rw [if_neg c1] at h
    refine am_ev_neg c1 ?_
    obtain ⟨qr, ql, qx⟩ := Q
    try dsimp only at h
    refine am_ev_st 4 (f' := am_br (ql ≤ p1) 27 9 [(0, .ref 17), (1, .int p1)] [] (W9 N C E F P (qr, ql, qx)) k n) (g := True ∧ True ∧ True ∧ True ∧ True) (by with_unfolding_all rfl) ⟨trivial, trivial, trivial, trivial, trivial⟩ ?_
    by_cases c2 : ql ≤ p1
    · rw [if_pos c2] at h
      refine am_ev_pos c2 ?_
      refine am_ev_st 1 (f' := (28, [(0, .ref 17), (1, .int p1)], [.int (-1 : Int32)], (W9 N C E F P (qr, ql, qx)), k, n)) (g := True ∧ True) (by with_unfolding_all rfl) ⟨trivial, trivial⟩ ?_
      cases h
      exact am_ev_ret 0 0 0 rfl .int rfl rfl rfl
    · rw [if_neg c2] at h
      refine am_ev_neg c2 ?_
      refine am_ev_st 3 (f' := am_br ((60 : Int32) ≤ p1) 27 15 [(0, .ref 17), (1, .int p1)] [] (W9 N C E F P (qr, ql, qx)) k n) (g := True ∧ True ∧ True ∧ True) (by with_unfolding_all rfl) ⟨trivial, trivial, trivial, trivial⟩ ?_
      by_cases c3 : (60 : Int32) ≤ p1
      · rw [if_pos c3] at h
        refine am_ev_pos c3 ?_
        refine am_ev_st 1 (f' := (28, [(0, .ref 17), (1, .int p1)], [.int (-1 : Int32)], (W9 N C E F P (qr, ql, qx)), k, n)) (g := True ∧ True) (by with_unfolding_all rfl) ⟨trivial, trivial⟩ ?_
        cases h
        exact am_ev_ret 0 0 0 rfl .int rfl rfl rfl
      · rw [if_neg c3] at h
        refine am_ev_neg c3 ?_
        by_cases g4 : (p1 < 0 ∨ 60 ≤ (p1).toNatClampNeg)
        · rw [if_pos g4] at h; cases h
        rw [if_neg g4] at h
        refine am_ev_st 5 (f' := (28, [(0, .ref 17), (1, .int p1)], [.int (qr (p1).toNatClampNeg)], (W9 N C E F P (qr, ql, qx)), k, n)) (g := True ∧ True ∧ True ∧ vp_in (p1) 60 ∧ True ∧ True) (by with_unfolding_all rfl) ⟨trivial, trivial, trivial, g4, trivial, trivial⟩ ?_
        cases h
        exact am_ev_ret 0 0 0 rfl .int rfl rfl rfl
def lp_fM_hasTooGreat_Q_2 (fl : Nat) : Nat → cQ → Int32 → Int32 → Option (Bool)
  | 0, _, _, _ => none
  | w + 1, Q, v1, v2 =>
    match Q with
    | (qr, ql, qx) =>
    if ql ≤ v2 then
    (some false)
    else
    (fM_at_Q Q v2).bind fun z2 =>
    match z2 with
    | (r2) =>
    if (r2 - r2 / (10 : Int32) * (10 : Int32)) ≠ v1 then
    (lp_fM_hasTooGreat_Q_2 fl w Q v1 (v2 + (1 : Int32)))
    else
    (fM_at_Q Q v2).bind fun z4 =>
    match z4 with
    | (r4) =>
    if (r4 / (10 : Int32)) ≤ (9 : Int32) then
    (lp_fM_hasTooGreat_Q_2 fl w Q v1 (v2 + (1 : Int32)))
    else
    some true
def fM_hasTooGreat_Q (fl : Nat) (Q : cQ) (p1 : Int32) : Option (Bool) :=
  lp_fM_hasTooGreat_Q_2 fl fl Q p1 (0 : Int32)
set_option maxHeartbeats 4000000 in
set_option maxRecDepth 100000 in
theorem ok_lp_fM_hasTooGreat_Q_2 {fl : Nat} : ∀ {w : Nat} {N : cN} {C : cC} {E : cE} {F : cF} {P : cP} {Q : cQ} {k n : Nat} {v1 : Int32} {v2 : Int32} {rv : Bool} (h : lp_fM_hasTooGreat_Q_2 fl w Q v1 v2 = some rv) (D : Nat) (hD : 1 ≤ D), am_Ev D 20 0 (fun _ => 0) (2, [(0, .ref 17), (1, .int v1), (2, .int v2)], [], (W9 N C E F P Q), k, n) (.inl (some (.int (am_bz rv))), W9 N C E F P Q, k, n) := by
  intro w
  induction w with
  | zero => intros; rename_i h _ _; cases h
  | succ w ih0 =>
    intro N C E F P Q k n v1 v2 rv h D hD
    have ih := fun {N} {C} {E} {F} {P} {Q} {k} {n} {v1} {v2} {rv} h => @ih0 N C E F P Q k n v1 v2 rv h D hD
    unfold lp_fM_hasTooGreat_Q_2 at h
    obtain ⟨qr, ql, qx⟩ := Q
    try dsimp only at h
    refine am_ev_st 4 (f' := am_br (ql ≤ v2) 43 7 [(0, .ref 17), (1, .int v1), (2, .int v2)] [] (W9 N C E F P (qr, ql, qx)) k n) (g := True ∧ True ∧ True ∧ True ∧ True) (by with_unfolding_all rfl) ⟨trivial, trivial, trivial, trivial, trivial⟩ ?_
    by_cases c1 : ql ≤ v2
    · rw [if_pos c1] at h
      refine am_ev_pos c1 ?_
      refine am_ev_st 1 (f' := (44, [(0, .ref 17), (1, .int v1), (2, .int v2)], [.int (0 : Int32)], (W9 N C E F P (qr, ql, qx)), k, n)) (g := True ∧ True) (by with_unfolding_all rfl) ⟨trivial, trivial⟩ ?_
      cases h
      exact am_ev_ret 0 0 0 rfl .boolean rfl am_n0 rfl
    · rw [if_neg c1] at h
      refine am_ev_neg c1 ?_
      refine am_ev_st 2 (f' := (12, [(0, .ref 17), (1, .int v1), (2, .int v2)], [.int v2, .ref 17], (W9 N C E F P (qr, ql, qx)), k, n)) (g := True ∧ True ∧ True) (by with_unfolding_all rfl) ⟨trivial, trivial, trivial⟩ ?_
      replace h := Option.bind_eq_some_iff.mp h
      obtain ⟨r2, hc2, h⟩ := h
      try dsimp only at h
      refine am_ev_call (.invokevirtual 22) 19 2 285 [.ref 17, .int v2] [] rfl rfl rfl rfl (ok_fM_at_Q hc2 D (by omega)) rfl ?_
      refine am_ev_st 4 (f' := am_br ((r2 - r2 / (10 : Int32) * (10 : Int32)) ≠ v1) 37 19 [(0, .ref 17), (1, .int v1), (2, .int v2)] [] (W9 N C E F P (qr, ql, qx)) k n) (g := True ∧ ¬ ((10 : Int32) = 0) ∧ True ∧ True ∧ True) (by with_unfolding_all rfl) ⟨trivial, by decide, trivial, trivial, trivial⟩ ?_
      by_cases c3 : (r2 - r2 / (10 : Int32) * (10 : Int32)) ≠ v1
      · rw [if_pos c3] at h
        refine am_ev_pos c3 ?_
        refine am_ev_st 2 (f' := (2, [(2, .int (v2 + (1 : Int32))), (0, .ref 17), (1, .int v1)], [], (W9 N C E F P (qr, ql, qx)), k, n)) (g := True ∧ True ∧ True) (by with_unfolding_all rfl) ⟨trivial, trivial, trivial⟩ ?_
        refine am_ev_drop [1, 2, 0] rfl rfl ?_
        exact ih h
      · rw [if_neg c3] at h
        refine am_ev_neg c3 ?_
        refine am_ev_st 2 (f' := (24, [(0, .ref 17), (1, .int v1), (2, .int v2)], [.int v2, .ref 17], (W9 N C E F P (qr, ql, qx)), k, n)) (g := True ∧ True ∧ True) (by with_unfolding_all rfl) ⟨trivial, trivial, trivial⟩ ?_
        replace h := Option.bind_eq_some_iff.mp h
        obtain ⟨r4, hc4, h⟩ := h
        try dsimp only at h
        refine am_ev_call (.invokevirtual 22) 19 2 285 [.ref 17, .int v2] [] rfl rfl rfl rfl (ok_fM_at_Q hc4 D (by omega)) rfl ?_
        refine am_ev_st 4 (f' := am_br ((r4 / (10 : Int32)) ≤ (9 : Int32)) 37 32 [(0, .ref 17), (1, .int v1), (2, .int v2)] [] (W9 N C E F P (qr, ql, qx)) k n) (g := True ∧ ¬ ((10 : Int32) = 0) ∧ True ∧ True ∧ True) (by with_unfolding_all rfl) ⟨trivial, by decide, trivial, trivial, trivial⟩ ?_
        by_cases c5 : (r4 / (10 : Int32)) ≤ (9 : Int32)
        · rw [if_pos c5] at h
          refine am_ev_pos c5 ?_
          refine am_ev_st 2 (f' := (2, [(2, .int (v2 + (1 : Int32))), (0, .ref 17), (1, .int v1)], [], (W9 N C E F P (qr, ql, qx)), k, n)) (g := True ∧ True ∧ True) (by with_unfolding_all rfl) ⟨trivial, trivial, trivial⟩ ?_
          refine am_ev_drop [1, 2, 0] rfl rfl ?_
          exact ih h
        · rw [if_neg c5] at h
          refine am_ev_neg c5 ?_
          refine am_ev_st 1 (f' := (36, [(0, .ref 17), (1, .int v1), (2, .int v2)], [.int (1 : Int32)], (W9 N C E F P (qr, ql, qx)), k, n)) (g := True ∧ True) (by with_unfolding_all rfl) ⟨trivial, trivial⟩ ?_
          cases h
          exact am_ev_ret 0 0 0 rfl .boolean rfl am_n1 rfl
set_option maxHeartbeats 4000000 in
set_option maxRecDepth 100000 in
theorem ok_fM_hasTooGreat_Q {fl : Nat} {N : cN} {C : cC} {E : cE} {F : cF} {P : cP} {Q : cQ} {k n : Nat} {p1 : Int32} {rv : Bool} (h : fM_hasTooGreat_Q fl Q p1 = some rv) (D : Nat) (hD : 2 ≤ D) : am_Call D 20 [.ref 17, .int p1] (W9 N C E F P Q) k n (.inl (some (.int (am_bz rv))), W9 N C E F P Q, k, n) := by
  unfold fM_hasTooGreat_Q at h
  obtain ⟨D, rfl⟩ : ∃ D', D = D' + 1 := ⟨D - 1, by omega⟩
  have hD : 1 ≤ D := by omega
  refine am_call_run (by decide) (by decide) rfl (Nat.le_of_ble_eq_true rfl) (by decide) (L := [(0, .ref 17), (1, .int p1)]) rfl ?_
  refine am_ev_st 2 (f' := (2, [(2, .int (0 : Int32)), (0, .ref 17), (1, .int p1)], [], (W9 N C E F P Q), k, n)) (g := True ∧ True ∧ True) (by with_unfolding_all rfl) ⟨trivial, trivial, trivial⟩ ?_
  refine am_ev_drop [1, 2, 0] rfl rfl ?_
  exact ok_lp_fM_hasTooGreat_Q_2 h D hD
def fM_writeNode_Q : Nat → cN → cQ → Int32 → Option (cQ)
  | 0, _, _, _ => none
  | d + 1, N, Q, p2 =>
    match Q with
    | (qr, ql, qx) =>
    if ql < 0 then
    (some Q)
    else
    if ql < (60 : Int32) then
    ((fN_kindOf N p2).bind fun z3 =>
    match z3 with
    | (r3) =>
    (fJ_hasParts r3).bind fun z4 =>
    match z4 with
    | (r4) =>
    if (am_bz r4) = 0 then
    ((fN_leftOf N p2).bind fun z6 =>
    match z6 with
    | (r6) =>
    if (ql < 0 ∨ 60 ≤ (ql).toNatClampNeg) then none else
    (fJ_hasParts r3).bind fun z8 =>
    match z8 with
    | (r8) =>
    if (am_bz r8) = 0 then
    (some ((upd qr (ql).toNatClampNeg (r3 + ((10 : Int32) * r6))), (ql + (1 : Int32)), qx))
    else
    (fN_leftOf N p2).bind fun z10 =>
    match z10 with
    | (r10) =>
    (fM_writeNode_Q d N ((upd qr (ql).toNatClampNeg (r3 + ((10 : Int32) * r6))), (ql + (1 : Int32)), qx) r10).bind fun z11 =>
    match z11 with
    | (Q_11) =>
    (fN_rightOf N p2).bind fun z12 =>
    match z12 with
    | (r12) =>
    (fM_writeNode_Q d N Q_11 r12).bind fun z13 =>
    match z13 with
    | (Q_13) =>
    some Q_13)
    else
    if (ql < 0 ∨ 60 ≤ (ql).toNatClampNeg) then none else
    (fJ_hasParts r3).bind fun z15 =>
    match z15 with
    | (r15) =>
    if (am_bz r15) = 0 then
    (some ((upd qr (ql).toNatClampNeg r3), (ql + (1 : Int32)), qx))
    else
    (fN_leftOf N p2).bind fun z17 =>
    match z17 with
    | (r17) =>
    (fM_writeNode_Q d N ((upd qr (ql).toNatClampNeg r3), (ql + (1 : Int32)), qx) r17).bind fun z18 =>
    match z18 with
    | (Q_18) =>
    (fN_rightOf N p2).bind fun z19 =>
    match z19 with
    | (r19) =>
    (fM_writeNode_Q d N Q_18 r19).bind fun z20 =>
    match z20 with
    | (Q_20) =>
    some Q_20)
    else
    some Q
set_option maxHeartbeats 4000000 in
set_option maxRecDepth 100000 in
theorem ok_fM_writeNode_Q  : ∀ {d : Nat} {N : cN} {C : cC} {E : cE} {F : cF} {P : cP} {Q : cQ} {k n : Nat} {p2 : Int32} {Q' : cQ} (h : fM_writeNode_Q d N Q p2 = some Q') (D : Nat) (hD : d + 1 ≤ D), am_Call D 22 [.ref 17, .ref 1, .int p2] (W9 N C E F P Q) k n (.inl none, W9 N C E F P Q', k, n) := by
  intro d
  induction d with
  | zero => intros; rename_i h _ _; cases h
  | succ d ih0 =>
    intro N C E F P Q k n p2 Q' h D hD
    have ih := fun {N} {C} {E} {F} {P} {Q} {k} {n} {p2} {Q'} h D hD => @ih0 N C E F P Q k n p2 Q' h D hD
    unfold fM_writeNode_Q at h
    obtain ⟨D, rfl⟩ : ∃ D', D = D' + 1 := ⟨D - 1, by omega⟩
    refine am_call_run (by decide) (by decide) rfl (Nat.le_of_ble_eq_true rfl) (by decide) (L := [(0, .ref 17), (1, .ref 1), (2, .int p2)]) rfl ?_
    obtain ⟨qr, ql, qx⟩ := Q
    try dsimp only at h
    refine am_ev_st 3 (f' := am_br (ql < 0) 16 4 [(0, .ref 17), (1, .ref 1), (2, .int p2)] [] (W9 N C E F P (qr, ql, qx)) k n) (g := True ∧ True ∧ True ∧ True) (by with_unfolding_all rfl) ⟨trivial, trivial, trivial, trivial⟩ ?_
    by_cases c1 : ql < 0
    · rw [if_pos c1] at h
      refine am_ev_pos c1 ?_
      cases h
      exact am_ev_vret 0 0 0 rfl rfl rfl
    · rw [if_neg c1] at h
      refine am_ev_neg c1 ?_
      refine am_ev_st 4 (f' := am_br (ql < (60 : Int32)) 17 13 [(0, .ref 17), (1, .ref 1), (2, .int p2)] [] (W9 N C E F P (qr, ql, qx)) k n) (g := True ∧ True ∧ True ∧ True ∧ True) (by with_unfolding_all rfl) ⟨trivial, trivial, trivial, trivial, trivial⟩ ?_
      by_cases c2 : ql < (60 : Int32)
      · rw [if_pos c2] at h
        refine am_ev_pos c2 ?_
        refine am_ev_st 2 (f' := (19, [(0, .ref 17), (1, .ref 1), (2, .int p2)], [.int p2, .ref 1], (W9 N C E F P (qr, ql, qx)), k, n)) (g := True ∧ True ∧ True) (by with_unfolding_all rfl) ⟨trivial, trivial, trivial⟩ ?_
        replace h := Option.bind_eq_some_iff.mp h
        obtain ⟨r3, hc3, h⟩ := h
        try dsimp only at h
        refine am_ev_call (.invokevirtual 30) 28 2 260 [.ref 1, .int p2] [] rfl rfl rfl rfl (ok_fN_kindOf hc3 D (by omega)) rfl ?_
        refine am_ev_st 6 (f' := (32, [(3, .int r3), (0, .ref 17), (1, .ref 1), (2, .int p2)], [.int r3, .int ql, .ref 18], (W9 N C E F P (qr, ql, qx)), k, n)) (g := True ∧ True ∧ True ∧ True ∧ True ∧ True ∧ True) (by with_unfolding_all rfl) ⟨trivial, trivial, trivial, trivial, trivial, trivial, trivial⟩ ?_
        replace h := Option.bind_eq_some_iff.mp h
        obtain ⟨r4, hc4, h⟩ := h
        try dsimp only at h
        refine am_ev_call (.invokestatic 35) 69 3 264 [.int r3] [.int ql, .ref 18] rfl rfl rfl rfl (ok_fJ_hasParts hc4 D (by omega)) rfl ?_
        refine am_ev_st 1 (f' := am_br ((am_bz r4) = 0) 42 35 [(3, .int r3), (0, .ref 17), (1, .ref 1), (2, .int p2)] [.int ql, .ref 18] (W9 N C E F P (qr, ql, qx)) k n) (g := True ∧ True) (by with_unfolding_all rfl) ⟨trivial, trivial⟩ ?_
        by_cases c5 : (am_bz r4) = 0
        · rw [if_pos c5] at h
          refine am_ev_pos c5 ?_
          refine am_ev_st 4 (f' := (47, [(3, .int r3), (0, .ref 17), (1, .ref 1), (2, .int p2)], [.int p2, .ref 1, .int (10 : Int32), .int r3, .int ql, .ref 18], (W9 N C E F P (qr, ql, qx)), k, n)) (g := True ∧ True ∧ True ∧ True ∧ True) (by with_unfolding_all rfl) ⟨trivial, trivial, trivial, trivial, trivial⟩ ?_
          replace h := Option.bind_eq_some_iff.mp h
          obtain ⟨r6, hc6, h⟩ := h
          try dsimp only at h
          refine am_ev_call (.invokevirtual 39) 29 2 265 [.ref 1, .int p2] [.int (10 : Int32), .int r3, .int ql, .ref 18] rfl rfl rfl rfl (ok_fN_leftOf hc6 D (by omega)) rfl ?_
          by_cases g7 : (ql < 0 ∨ 60 ≤ (ql).toNatClampNeg)
          · rw [if_pos g7] at h; cases h
          rw [if_neg g7] at h
          refine am_ev_st 10 (f' := (64, [(3, .int r3), (0, .ref 17), (1, .ref 1), (2, .int p2)], [.int r3], (W9 N C E F P ((upd qr (ql).toNatClampNeg (r3 + ((10 : Int32) * r6))), (ql + (1 : Int32)), qx)), k, n)) (g := True ∧ True ∧ vp_in (ql) 60 ∧ True ∧ True ∧ True ∧ True ∧ True ∧ True ∧ True ∧ True) (by with_unfolding_all rfl) ⟨trivial, trivial, g7, trivial, trivial, trivial, trivial, trivial, trivial, trivial, trivial⟩ ?_
          replace h := Option.bind_eq_some_iff.mp h
          obtain ⟨r8, hc8, h⟩ := h
          try dsimp only at h
          refine am_ev_call (.invokestatic 35) 69 3 264 [.int r3] [] rfl rfl rfl rfl (ok_fJ_hasParts hc8 D (by omega)) rfl ?_
          refine am_ev_st 1 (f' := am_br ((am_bz r8) = 0) 90 67 [(3, .int r3), (0, .ref 17), (1, .ref 1), (2, .int p2)] [] (W9 N C E F P ((upd qr (ql).toNatClampNeg (r3 + ((10 : Int32) * r6))), (ql + (1 : Int32)), qx)) k n) (g := True ∧ True) (by with_unfolding_all rfl) ⟨trivial, trivial⟩ ?_
          by_cases c9 : (am_bz r8) = 0
          · rw [if_pos c9] at h
            refine am_ev_pos c9 ?_
            cases h
            exact am_ev_vret 0 0 0 rfl rfl rfl
          · rw [if_neg c9] at h
            refine am_ev_neg c9 ?_
            refine am_ev_st 4 (f' := (74, [(3, .int r3), (0, .ref 17), (1, .ref 1), (2, .int p2)], [.int p2, .ref 1, .ref 1, .ref 17], (W9 N C E F P ((upd qr (ql).toNatClampNeg (r3 + ((10 : Int32) * r6))), (ql + (1 : Int32)), qx)), k, n)) (g := True ∧ True ∧ True ∧ True ∧ True) (by with_unfolding_all rfl) ⟨trivial, trivial, trivial, trivial, trivial⟩ ?_
            replace h := Option.bind_eq_some_iff.mp h
            obtain ⟨r10, hc10, h⟩ := h
            try dsimp only at h
            refine am_ev_call (.invokevirtual 39) 29 2 265 [.ref 1, .int p2] [.ref 1, .ref 17] rfl rfl rfl rfl (ok_fN_leftOf hc10 D (by omega)) rfl ?_
            replace h := Option.bind_eq_some_iff.mp h
            obtain ⟨Q_11, hc11, h⟩ := h
            try dsimp only at h
            refine am_ev_call (.invokevirtual 26) 22 4 256 [.ref 17, .ref 1, .int r10] [] rfl rfl rfl rfl (ih hc11 D (by omega)) rfl ?_
            refine am_ev_st 4 (f' := (84, [(3, .int r3), (0, .ref 17), (1, .ref 1), (2, .int p2)], [.int p2, .ref 1, .ref 1, .ref 17], (W9 N C E F P Q_11), k, n)) (g := True ∧ True ∧ True ∧ True ∧ True) (by with_unfolding_all rfl) ⟨trivial, trivial, trivial, trivial, trivial⟩ ?_
            replace h := Option.bind_eq_some_iff.mp h
            obtain ⟨r12, hc12, h⟩ := h
            try dsimp only at h
            refine am_ev_call (.invokevirtual 42) 30 2 269 [.ref 1, .int p2] [.ref 1, .ref 17] rfl rfl rfl rfl (ok_fN_rightOf hc12 D (by omega)) rfl ?_
            replace h := Option.bind_eq_some_iff.mp h
            obtain ⟨Q_13, hc13, h⟩ := h
            try dsimp only at h
            refine am_ev_call (.invokevirtual 26) 22 4 256 [.ref 17, .ref 1, .int r12] [] rfl rfl rfl rfl (ih hc13 D (by omega)) rfl ?_
            cases h
            exact am_ev_vret 0 0 0 rfl rfl rfl
        · rw [if_neg c5] at h
          refine am_ev_neg c5 ?_
          by_cases g14 : (ql < 0 ∨ 60 ≤ (ql).toNatClampNeg)
          · rw [if_pos g14] at h; cases h
          rw [if_neg g14] at h
          refine am_ev_st 10 (f' := (64, [(3, .int r3), (0, .ref 17), (1, .ref 1), (2, .int p2)], [.int r3], (W9 N C E F P ((upd qr (ql).toNatClampNeg r3), (ql + (1 : Int32)), qx)), k, n)) (g := True ∧ True ∧ vp_in (ql) 60 ∧ True ∧ True ∧ True ∧ True ∧ True ∧ True ∧ True ∧ True) (by with_unfolding_all rfl) ⟨trivial, trivial, g14, trivial, trivial, trivial, trivial, trivial, trivial, trivial, trivial⟩ ?_
          replace h := Option.bind_eq_some_iff.mp h
          obtain ⟨r15, hc15, h⟩ := h
          try dsimp only at h
          refine am_ev_call (.invokestatic 35) 69 3 264 [.int r3] [] rfl rfl rfl rfl (ok_fJ_hasParts hc15 D (by omega)) rfl ?_
          refine am_ev_st 1 (f' := am_br ((am_bz r15) = 0) 90 67 [(3, .int r3), (0, .ref 17), (1, .ref 1), (2, .int p2)] [] (W9 N C E F P ((upd qr (ql).toNatClampNeg r3), (ql + (1 : Int32)), qx)) k n) (g := True ∧ True) (by with_unfolding_all rfl) ⟨trivial, trivial⟩ ?_
          by_cases c16 : (am_bz r15) = 0
          · rw [if_pos c16] at h
            refine am_ev_pos c16 ?_
            cases h
            exact am_ev_vret 0 0 0 rfl rfl rfl
          · rw [if_neg c16] at h
            refine am_ev_neg c16 ?_
            refine am_ev_st 4 (f' := (74, [(3, .int r3), (0, .ref 17), (1, .ref 1), (2, .int p2)], [.int p2, .ref 1, .ref 1, .ref 17], (W9 N C E F P ((upd qr (ql).toNatClampNeg r3), (ql + (1 : Int32)), qx)), k, n)) (g := True ∧ True ∧ True ∧ True ∧ True) (by with_unfolding_all rfl) ⟨trivial, trivial, trivial, trivial, trivial⟩ ?_
            replace h := Option.bind_eq_some_iff.mp h
            obtain ⟨r17, hc17, h⟩ := h
            try dsimp only at h
            refine am_ev_call (.invokevirtual 39) 29 2 265 [.ref 1, .int p2] [.ref 1, .ref 17] rfl rfl rfl rfl (ok_fN_leftOf hc17 D (by omega)) rfl ?_
            replace h := Option.bind_eq_some_iff.mp h
            obtain ⟨Q_18, hc18, h⟩ := h
            try dsimp only at h
            refine am_ev_call (.invokevirtual 26) 22 4 256 [.ref 17, .ref 1, .int r17] [] rfl rfl rfl rfl (ih hc18 D (by omega)) rfl ?_
            refine am_ev_st 4 (f' := (84, [(3, .int r3), (0, .ref 17), (1, .ref 1), (2, .int p2)], [.int p2, .ref 1, .ref 1, .ref 17], (W9 N C E F P Q_18), k, n)) (g := True ∧ True ∧ True ∧ True ∧ True) (by with_unfolding_all rfl) ⟨trivial, trivial, trivial, trivial, trivial⟩ ?_
            replace h := Option.bind_eq_some_iff.mp h
            obtain ⟨r19, hc19, h⟩ := h
            try dsimp only at h
            refine am_ev_call (.invokevirtual 42) 30 2 269 [.ref 1, .int p2] [.ref 1, .ref 17] rfl rfl rfl rfl (ok_fN_rightOf hc19 D (by omega)) rfl ?_
            replace h := Option.bind_eq_some_iff.mp h
            obtain ⟨Q_20, hc20, h⟩ := h
            try dsimp only at h
            refine am_ev_call (.invokevirtual 26) 22 4 256 [.ref 17, .ref 1, .int r19] [] rfl rfl rfl rfl (ih hc20 D (by omega)) rfl ?_
            cases h
            exact am_ev_vret 0 0 0 rfl rfl rfl
      · rw [if_neg c2] at h
        refine am_ev_neg c2 ?_
        cases h
        exact am_ev_vret 0 0 0 rfl rfl rfl
