def fF_typeOfVariable (d : Nat) (N : cN) (F : cF) (k n : Nat) (p1 : Int32) : Option (((Int32) ⊕ Nat) × cN × (Nat × Nat)) :=
  match F with
  | (tt, tc) =>
  if ((tc - (1 : Int32)) - p1) < 0 then
  (some (.inr 1, N, ((k + 1), (n + 6))))
  else
  if tc ≤ ((tc - (1 : Int32)) - p1) then
  (some (.inr 1, N, ((k + 1), (n + 6))))
  else
  if ((tc - (1 : Int32)) - p1) < (12 : Int32) then
  (if (((tc - (1 : Int32)) - p1) < 0 ∨ 12 ≤ (((tc - (1 : Int32)) - p1)).toNatClampNeg) then none else
  (fN_changed d N k n (tt (((tc - (1 : Int32)) - p1)).toNatClampNeg) (0 : Int32) (-1 : Int32) (p1 + (1 : Int32))).bind fun z5 =>
  match z5 with
  | (r5, N_5, (k_5, n_5)) =>
  some (.inl r5, N_5, (k_5, n_5)))
  else
  some (.inr 1, N, ((k + 1), (n + 6)))
set_option maxHeartbeats 4000000 in
set_option maxRecDepth 100000 in
theorem ok_fF_typeOfVariable {d : Nat} {N : cN} {C : cC} {E : cE} {F : cF} {P : cP} {Q : cQ} {k n : Nat} {p1 : Int32} {rv : (Int32) ⊕ Nat} {N' : cN} {k' n' : Nat} (h : fF_typeOfVariable d N F k n p1 = some (rv, N', (k', n'))) (D : Nat) (hD : d + 3 ≤ D) : am_Call D 11 [.ref 13, .int p1] (W9 N C E F P Q) k n (am_oI rv, W9 N' C E F P Q, k', n') := by
  unfold fF_typeOfVariable at h
  obtain ⟨D, rfl⟩ : ∃ D', D = D' + 1 := ⟨D - 1, by omega⟩
  have hD : d + 2 ≤ D := by omega
  refine am_call_run (by decide) (by decide) rfl (Nat.le_of_ble_eq_true rfl) (by decide) (L := [(0, .ref 13), (1, .int p1)]) rfl ?_
  obtain ⟨tt, tc⟩ := F
  try dsimp only at h
  refine am_ev_st 9 (f' := am_br (((tc - (1 : Int32)) - p1) < 0) 27 10 [(2, .int ((tc - (1 : Int32)) - p1)), (0, .ref 13), (1, .int p1)] [] (W9 N C E (tt, tc) P Q) k n) (g := True ∧ True ∧ True ∧ True ∧ True ∧ True ∧ True ∧ True ∧ True ∧ True) (by with_unfolding_all rfl) ⟨trivial, trivial, trivial, trivial, trivial, trivial, trivial, trivial, trivial, trivial⟩ ?_
  by_cases c1 : ((tc - (1 : Int32)) - p1) < 0
  · rw [if_pos c1] at h
    refine am_ev_pos c1 ?_
    cases h
    exact am_ev_throw (.new 70) 1 1 463 rfl _ rfl rfl rfl rfl rfl rfl rfl
  · rw [if_neg c1] at h
    refine am_ev_neg c1 ?_
    refine am_ev_st 4 (f' := am_br (tc ≤ ((tc - (1 : Int32)) - p1)) 27 18 [(2, .int ((tc - (1 : Int32)) - p1)), (0, .ref 13), (1, .int p1)] [] (W9 N C E (tt, tc) P Q) k n) (g := True ∧ True ∧ True ∧ True ∧ True) (by with_unfolding_all rfl) ⟨trivial, trivial, trivial, trivial, trivial⟩ ?_
    by_cases c2 : tc ≤ ((tc - (1 : Int32)) - p1)
    · rw [if_pos c2] at h
      refine am_ev_pos c2 ?_
      cases h
      exact am_ev_throw (.new 70) 1 1 463 rfl _ rfl rfl rfl rfl rfl rfl rfl
    · rw [if_neg c2] at h
      refine am_ev_neg c2 ?_
      refine am_ev_st 3 (f' := am_br (((tc - (1 : Int32)) - p1) < (12 : Int32)) 37 24 [(2, .int ((tc - (1 : Int32)) - p1)), (0, .ref 13), (1, .int p1)] [] (W9 N C E (tt, tc) P Q) k n) (g := True ∧ True ∧ True ∧ True) (by with_unfolding_all rfl) ⟨trivial, trivial, trivial, trivial⟩ ?_
      by_cases c3 : ((tc - (1 : Int32)) - p1) < (12 : Int32)
      · rw [if_pos c3] at h
        refine am_ev_pos c3 ?_
        by_cases g4 : (((tc - (1 : Int32)) - p1) < 0 ∨ 12 ≤ (((tc - (1 : Int32)) - p1)).toNatClampNeg)
        · rw [if_pos g4] at h; cases h
        rw [if_neg g4] at h
        refine am_ev_st 11 (f' := (52, [(2, .int ((tc - (1 : Int32)) - p1)), (0, .ref 13), (1, .int p1)], [.int (p1 + (1 : Int32)), .int (-1 : Int32), .int (0 : Int32), .int (tt (((tc - (1 : Int32)) - p1)).toNatClampNeg), .ref 1], (W9 N C E (tt, tc) P Q), k, n)) (g := True ∧ True ∧ True ∧ True ∧ True ∧ vp_in (((tc - (1 : Int32)) - p1)) 12 ∧ True ∧ True ∧ True ∧ True ∧ True ∧ True) (by with_unfolding_all rfl) ⟨trivial, trivial, trivial, trivial, trivial, g4, trivial, trivial, trivial, trivial, trivial, trivial⟩ ?_
        replace h := Option.bind_eq_some_iff.mp h
        obtain ⟨⟨r5, N_5, ⟨k_5, n_5⟩⟩, hc5, h⟩ := h
        try dsimp only at h
        refine am_ev_call (.invokevirtual 79) 43 8 479 [.ref 1, .int (tt (((tc - (1 : Int32)) - p1)).toNatClampNeg), .int (0 : Int32), .int (-1 : Int32), .int (p1 + (1 : Int32))] [] rfl rfl rfl rfl (ok_fN_changed hc5 D (by omega)) rfl ?_
        cases h
        exact am_ev_ret 0 0 0 rfl .int rfl rfl rfl
      · rw [if_neg c3] at h
        refine am_ev_neg c3 ?_
        cases h
        exact am_ev_throw (.new 70) 1 1 463 rfl _ rfl rfl rfl rfl rfl rfl rfl
def fN_isTooMuch (N : cN) (p1 : Int32) : Option (Bool) :=
  (fN_sizeOf N p1).bind fun z1 =>
  match z1 with
  | (r1) =>
  if (60 : Int32) < r1 then
  (some true)
  else
  (fN_depthOf N p1).bind fun z3 =>
  match z3 with
  | (r3) =>
  if r3 ≤ (12 : Int32) then
  (some false)
  else
  some true
set_option maxHeartbeats 4000000 in
set_option maxRecDepth 100000 in
theorem ok_fN_isTooMuch  {N : cN} {C : cC} {E : cE} {F : cF} {P : cP} {Q : cQ} {k n : Nat} {p1 : Int32} {rv : Bool} (h : fN_isTooMuch N p1 = some rv) (D : Nat) (hD : 2 ≤ D) : am_Call D 34 [.ref 1, .int p1] (W9 N C E F P Q) k n (.inl (some (.int (am_bz rv))), W9 N C E F P Q, k, n) := by
  unfold fN_isTooMuch at h
  obtain ⟨D, rfl⟩ : ∃ D', D = D' + 1 := ⟨D - 1, by omega⟩
  have hD : 1 ≤ D := by omega
  refine am_call_run (by decide) (by decide) rfl (Nat.le_of_ble_eq_true rfl) (by decide) (L := [(0, .ref 1), (1, .int p1)]) rfl ?_
  refine am_ev_st 2 (f' := (2, [(0, .ref 1), (1, .int p1)], [.int p1, .ref 1], (W9 N C E F P Q), k, n)) (g := True ∧ True ∧ True) (by with_unfolding_all rfl) ⟨trivial, trivial, trivial⟩ ?_
  replace h := Option.bind_eq_some_iff.mp h
  obtain ⟨r1, hc1, h⟩ := h
  try dsimp only at h
  refine am_ev_call (.invokevirtual 37) 31 2 200 [.ref 1, .int p1] [] rfl rfl rfl rfl (ok_fN_sizeOf hc1 D (by omega)) rfl ?_
  refine am_ev_st 2 (f' := am_br ((60 : Int32) < r1) 20 7 [(0, .ref 1), (1, .int p1)] [] (W9 N C E F P Q) k n) (g := True ∧ True ∧ True) (by with_unfolding_all rfl) ⟨trivial, trivial, trivial⟩ ?_
  by_cases c2 : (60 : Int32) < r1
  · rw [if_pos c2] at h
    refine am_ev_pos c2 ?_
    refine am_ev_st 2 (f' := (25, [(0, .ref 1), (1, .int p1)], [.int (1 : Int32)], (W9 N C E F P Q), k, n)) (g := True ∧ True ∧ True) (by with_unfolding_all rfl) ⟨trivial, trivial, trivial⟩ ?_
    cases h
    exact am_ev_ret 0 0 0 rfl .boolean rfl am_n1 rfl
  · rw [if_neg c2] at h
    refine am_ev_neg c2 ?_
    refine am_ev_st 2 (f' := (12, [(0, .ref 1), (1, .int p1)], [.int p1, .ref 1], (W9 N C E F P Q), k, n)) (g := True ∧ True ∧ True) (by with_unfolding_all rfl) ⟨trivial, trivial, trivial⟩ ?_
    replace h := Option.bind_eq_some_iff.mp h
    obtain ⟨r3, hc3, h⟩ := h
    try dsimp only at h
    refine am_ev_call (.invokevirtual 41) 32 2 204 [.ref 1, .int p1] [] rfl rfl rfl rfl (ok_fN_depthOf hc3 D (by omega)) rfl ?_
    refine am_ev_st 2 (f' := am_br (r3 ≤ (12 : Int32)) 24 17 [(0, .ref 1), (1, .int p1)] [] (W9 N C E F P Q) k n) (g := True ∧ True ∧ True) (by with_unfolding_all rfl) ⟨trivial, trivial, trivial⟩ ?_
    by_cases c4 : r3 ≤ (12 : Int32)
    · rw [if_pos c4] at h
      refine am_ev_pos c4 ?_
      refine am_ev_st 1 (f' := (25, [(0, .ref 1), (1, .int p1)], [.int (0 : Int32)], (W9 N C E F P Q), k, n)) (g := True ∧ True) (by with_unfolding_all rfl) ⟨trivial, trivial⟩ ?_
      cases h
      exact am_ev_ret 0 0 0 rfl .boolean rfl am_n0 rfl
    · rw [if_neg c4] at h
      refine am_ev_neg c4 ?_
      refine am_ev_st 2 (f' := (25, [(0, .ref 1), (1, .int p1)], [.int (1 : Int32)], (W9 N C E F P Q), k, n)) (g := True ∧ True ∧ True) (by with_unfolding_all rfl) ⟨trivial, trivial, trivial⟩ ?_
      cases h
      exact am_ev_ret 0 0 0 rfl .boolean rfl am_n1 rfl
def fN_withHead : Nat → cN → Nat → Nat → Int32 → Int32 → Int32 → Option (Int32 × cN × (Nat × Nat))
  | 0, _, _, _, _, _, _ => none
  | d + 1, N, k, n, p1, p2, p3 =>
    if p1 = p2 then
    (some (p3, N, (k, n)))
    else
    (fN_kindOf N p1).bind fun z2 =>
    match z2 with
    | (r2) =>
    if r2 = (4 : Int32) then
    ((fN_leftOf N p1).bind fun z4 =>
    match z4 with
    | (r4) =>
    (fN_withHead d N k n r4 p2 p3).bind fun z5 =>
    match z5 with
    | (r5, N_5, (k_5, n_5)) =>
    (fN_rightOf N_5 p1).bind fun z6 =>
    match z6 with
    | (r6) =>
    (fN_add N_5 k_5 n_5 (4 : Int32) r5 r6).bind fun z7 =>
    match z7 with
    | (r7, N_7, (k_7, n_7)) =>
    some (r7, N_7, (k_7, n_7)))
    else
    some (p3, N, (k, n))
set_option maxHeartbeats 4000000 in
set_option maxRecDepth 100000 in
theorem ok_fN_withHead  : ∀ {d : Nat} {N : cN} {C : cC} {E : cE} {F : cF} {P : cP} {Q : cQ} {k n : Nat} {p1 p2 p3 : Int32} {rv : Int32} {N' : cN} {k' n' : Nat} (h : fN_withHead d N k n p1 p2 p3 = some (rv, N', (k', n'))) (D : Nat) (hD : d + 2 ≤ D), am_Call D 44 [.ref 1, .int p1, .int p2, .int p3] (W9 N C E F P Q) k n (.inl (some (.int rv)), W9 N' C E F P Q, k', n') := by
  intro d
  induction d with
  | zero => intros; rename_i h _ _; cases h
  | succ d ih0 =>
    intro N C E F P Q k n p1 p2 p3 rv N' k' n' h D hD
    have ih := fun {N} {C} {E} {F} {P} {Q} {k} {n} {p1} {p2} {p3} {rv} {N'} {k'} {n'} h D hD => @ih0 N C E F P Q k n p1 p2 p3 rv N' k' n' h D hD
    unfold fN_withHead at h
    obtain ⟨D, rfl⟩ : ∃ D', D = D' + 1 := ⟨D - 1, by omega⟩
    refine am_call_run (by decide) (by decide) rfl (Nat.le_of_ble_eq_true rfl) (by decide) (L := [(0, .ref 1), (1, .int p1), (2, .int p2), (3, .int p3)]) rfl ?_
    refine am_ev_st 3 (f' := am_br (p1 = p2) 14 2 [(0, .ref 1), (1, .int p1), (2, .int p2), (3, .int p3)] [] (W9 N C E F P Q) k n) (g := True ∧ True ∧ True ∧ True) (by with_unfolding_all rfl) ⟨trivial, trivial, trivial, trivial⟩ ?_
    by_cases c1 : p1 = p2
    · rw [if_pos c1] at h
      refine am_ev_pos c1 ?_
      refine am_ev_st 1 (f' := (15, [(0, .ref 1), (1, .int p1), (2, .int p2), (3, .int p3)], [.int p3], (W9 N C E F P Q), k, n)) (g := True ∧ True) (by with_unfolding_all rfl) ⟨trivial, trivial⟩ ?_
      cases h
      exact am_ev_ret 0 0 0 rfl .int rfl rfl rfl
    · rw [if_neg c1] at h
      refine am_ev_neg c1 ?_
      refine am_ev_st 2 (f' := (7, [(0, .ref 1), (1, .int p1), (2, .int p2), (3, .int p3)], [.int p1, .ref 1], (W9 N C E F P Q), k, n)) (g := True ∧ True ∧ True) (by with_unfolding_all rfl) ⟨trivial, trivial, trivial⟩ ?_
      replace h := Option.bind_eq_some_iff.mp h
      obtain ⟨r2, hc2, h⟩ := h
      try dsimp only at h
      refine am_ev_call (.invokevirtual 54) 28 2 301 [.ref 1, .int p1] [] rfl rfl rfl rfl (ok_fN_kindOf hc2 D (by omega)) rfl ?_
      refine am_ev_st 2 (f' := am_br (r2 = (4 : Int32)) 16 11 [(0, .ref 1), (1, .int p1), (2, .int p2), (3, .int p3)] [] (W9 N C E F P Q) k n) (g := True ∧ True ∧ True) (by with_unfolding_all rfl) ⟨trivial, trivial, trivial⟩ ?_
      by_cases c3 : r2 = (4 : Int32)
      · rw [if_pos c3] at h
        refine am_ev_pos c3 ?_
        refine am_ev_st 5 (f' := (21, [(0, .ref 1), (1, .int p1), (2, .int p2), (3, .int p3)], [.int p1, .ref 1, .ref 1, .int (4 : Int32), .ref 1], (W9 N C E F P Q), k, n)) (g := True ∧ True ∧ True ∧ True ∧ True ∧ True) (by with_unfolding_all rfl) ⟨trivial, trivial, trivial, trivial, trivial, trivial⟩ ?_
        replace h := Option.bind_eq_some_iff.mp h
        obtain ⟨r4, hc4, h⟩ := h
        try dsimp only at h
        refine am_ev_call (.invokevirtual 57) 29 2 302 [.ref 1, .int p1] [.ref 1, .int (4 : Int32), .ref 1] rfl rfl rfl rfl (ok_fN_leftOf hc4 D (by omega)) rfl ?_
        refine am_ev_st 2 (f' := (26, [(0, .ref 1), (1, .int p1), (2, .int p2), (3, .int p3)], [.int p3, .int p2, .int r4, .ref 1, .int (4 : Int32), .ref 1], (W9 N C E F P Q), k, n)) (g := True ∧ True ∧ True) (by with_unfolding_all rfl) ⟨trivial, trivial, trivial⟩ ?_
        replace h := Option.bind_eq_some_iff.mp h
        obtain ⟨⟨r5, N_5, ⟨k_5, n_5⟩⟩, hc5, h⟩ := h
        try dsimp only at h
        refine am_ev_call (.invokevirtual 95) 44 6 517 [.ref 1, .int r4, .int p2, .int p3] [.int (4 : Int32), .ref 1] rfl rfl rfl rfl (ih hc5 D (by omega)) rfl ?_
        refine am_ev_st 2 (f' := (31, [(0, .ref 1), (1, .int p1), (2, .int p2), (3, .int p3)], [.int p1, .ref 1, .int r5, .int (4 : Int32), .ref 1], (W9 N_5 C E F P Q), k_5, n_5)) (g := True ∧ True ∧ True) (by with_unfolding_all rfl) ⟨trivial, trivial, trivial⟩ ?_
        replace h := Option.bind_eq_some_iff.mp h
        obtain ⟨r6, hc6, h⟩ := h
        try dsimp only at h
        refine am_ev_call (.invokevirtual 60) 30 2 303 [.ref 1, .int p1] [.int r5, .int (4 : Int32), .ref 1] rfl rfl rfl rfl (ok_fN_rightOf hc6 D (by omega)) rfl ?_
        replace h := Option.bind_eq_some_iff.mp h
        obtain ⟨⟨r7, N_7, ⟨k_7, n_7⟩⟩, hc7, h⟩ := h
        try dsimp only at h
        refine am_ev_call (.invokevirtual 88) 38 6 484 [.ref 1, .int (4 : Int32), .int r5, .int r6] [] rfl rfl rfl rfl (ok_fN_add hc7 D (by omega)) rfl ?_
        cases h
        exact am_ev_ret 0 0 0 rfl .int rfl rfl rfl
      · rw [if_neg c3] at h
        refine am_ev_neg c3 ?_
        refine am_ev_st 1 (f' := (15, [(0, .ref 1), (1, .int p1), (2, .int p2), (3, .int p3)], [.int p3], (W9 N C E F P Q), k, n)) (g := True ∧ True) (by with_unfolding_all rfl) ⟨trivial, trivial⟩ ?_
        cases h
        exact am_ev_ret 0 0 0 rfl .int rfl rfl rfl
def lp_fE_nextPlace_7 (fl : Nat) : Nat → cN → cC → Int32 → Int32 → Int32 → Int32 → Option (Int32)
  | 0, _, _, _, _, _, _ => none
  | w + 1, N, C, v1, v2, v3, v4 =>
    if (12 : Int32) ≤ v4 then
    ((fN_kindOf N v2).bind fun z2 =>
    match z2 with
    | (r2) =>
    if r2 ≠ (3 : Int32) then
    (if r2 ≠ (5 : Int32) then
    (some (-1 : Int32))
    else
    (fN_leftOf N v2).bind fun z5 =>
    match z5 with
    | (r5) =>
    (fC_bodyAt C r5).bind fun z6 =>
    match z6 with
    | (r6) =>
    if r6 = (-1 : Int32) then
    (some (-1 : Int32))
    else
    some v2)
    else
    some v3)
    else
    (fN_kindOf N v2).bind fun z8 =>
    match z8 with
    | (r8) =>
    if r8 ≠ (4 : Int32) then
    ((fN_kindOf N v2).bind fun z10 =>
    match z10 with
    | (r10) =>
    if r10 ≠ (3 : Int32) then
    (if r10 ≠ (5 : Int32) then
    (some (-1 : Int32))
    else
    (fN_leftOf N v2).bind fun z13 =>
    match z13 with
    | (r13) =>
    (fC_bodyAt C r13).bind fun z14 =>
    match z14 with
    | (r14) =>
    if r14 = (-1 : Int32) then
    (some (-1 : Int32))
    else
    some v2)
    else
    some v3)
    else
    (fN_leftOf N v2).bind fun z16 =>
    match z16 with
    | (r16) =>
    lp_fE_nextPlace_7 fl w N C v1 r16 v2 (v4 + (1 : Int32))
def fE_nextPlace (fl : Nat) (N : cN) (C : cC) (p1 : Int32) : Option (Int32) :=
  lp_fE_nextPlace_7 fl fl N C p1 p1 (-1 : Int32) (0 : Int32)
set_option maxHeartbeats 4000000 in
set_option maxRecDepth 100000 in
theorem ok_lp_fE_nextPlace_7 {fl : Nat} : ∀ {w : Nat} {N : cN} {C : cC} {E : cE} {F : cF} {P : cP} {Q : cQ} {k n : Nat} {v1 : Int32} {v2 : Int32} {v3 : Int32} {v4 : Int32} {rv : Int32} (h : lp_fE_nextPlace_7 fl w N C v1 v2 v3 v4 = some rv) (D : Nat) (hD : 2 ≤ D), am_Ev D 49 0 (fun _ => 0) (7, [(0, .ref 10), (1, .int v1), (2, .int v2), (3, .int v3), (4, .int v4)], [], (W9 N C E F P Q), k, n) (.inl (some (.int rv)), W9 N C E F P Q, k, n) := by
  intro w
  induction w with
  | zero => intros; rename_i h _ _; cases h
  | succ w ih0 =>
    intro N C E F P Q k n v1 v2 v3 v4 rv h D hD
    have ih := fun {N} {C} {E} {F} {P} {Q} {k} {n} {v1} {v2} {v3} {v4} {rv} h => @ih0 N C E F P Q k n v1 v2 v3 v4 rv h D hD
    unfold lp_fE_nextPlace_7 at h
    refine am_ev_st 3 (f' := am_br ((12 : Int32) ≤ v4) 43 11 [(0, .ref 10), (1, .int v1), (2, .int v2), (3, .int v3), (4, .int v4)] [] (W9 N C E F P Q) k n) (g := True ∧ True ∧ True ∧ True) (by with_unfolding_all rfl) ⟨trivial, trivial, trivial, trivial⟩ ?_
    by_cases c1 : (12 : Int32) ≤ v4
    · rw [if_pos c1] at h
      refine am_ev_pos c1 ?_
      refine am_ev_st 3 (f' := (48, [(0, .ref 10), (1, .int v1), (2, .int v2), (3, .int v3), (4, .int v4)], [.int v2, .ref 1], (W9 N C E F P Q), k, n)) (g := True ∧ True ∧ True ∧ True) (by with_unfolding_all rfl) ⟨trivial, trivial, trivial, trivial⟩ ?_
      replace h := Option.bind_eq_some_iff.mp h
      obtain ⟨r2, hc2, h⟩ := h
      try dsimp only at h
      refine am_ev_call (.invokevirtual 52) 28 2 505 [.ref 1, .int v2] [] rfl rfl rfl rfl (ok_fN_kindOf hc2 D (by omega)) rfl ?_
      refine am_ev_st 4 (f' := am_br (r2 ≠ (3 : Int32)) 61 56 [(4, .int r2), (0, .ref 10), (1, .int v1), (2, .int v2), (3, .int v3)] [] (W9 N C E F P Q) k n) (g := True ∧ True ∧ True ∧ True ∧ True) (by with_unfolding_all rfl) ⟨trivial, trivial, trivial, trivial, trivial⟩ ?_
      by_cases c3 : r2 ≠ (3 : Int32)
      · rw [if_pos c3] at h
        refine am_ev_pos c3 ?_
        refine am_ev_st 3 (f' := am_br (r2 ≠ (5 : Int32)) 90 64 [(4, .int r2), (0, .ref 10), (1, .int v1), (2, .int v2), (3, .int v3)] [] (W9 N C E F P Q) k n) (g := True ∧ True ∧ True ∧ True) (by with_unfolding_all rfl) ⟨trivial, trivial, trivial, trivial⟩ ?_
        by_cases c4 : r2 ≠ (5 : Int32)
        · rw [if_pos c4] at h
          refine am_ev_pos c4 ?_
          refine am_ev_st 4 (f' := am_br ((0 : Int32) = 0) 102 95 [(5, .int (0 : Int32)), (4, .int r2), (0, .ref 10), (1, .int v1), (2, .int v2), (3, .int v3)] [] (W9 N C E F P Q) k n) (g := True ∧ True ∧ True ∧ True ∧ True) (by with_unfolding_all rfl) ⟨trivial, trivial, trivial, trivial, trivial⟩ ?_
          refine am_ev_pos (by decide) ?_
          refine am_ev_st 1 (f' := (103, [(5, .int (0 : Int32)), (4, .int r2), (0, .ref 10), (1, .int v1), (2, .int v2), (3, .int v3)], [.int (-1 : Int32)], (W9 N C E F P Q), k, n)) (g := True ∧ True) (by with_unfolding_all rfl) ⟨trivial, trivial⟩ ?_
          cases h
          exact am_ev_ret 0 0 0 rfl .int rfl rfl rfl
        · rw [if_neg c4] at h
          refine am_ev_neg c4 ?_
          refine am_ev_st 5 (f' := (76, [(4, .int r2), (0, .ref 10), (1, .int v1), (2, .int v2), (3, .int v3)], [.int v2, .ref 1, .ref 7], (W9 N C E F P Q), k, n)) (g := True ∧ True ∧ True ∧ True ∧ True ∧ True) (by with_unfolding_all rfl) ⟨trivial, trivial, trivial, trivial, trivial, trivial⟩ ?_
          replace h := Option.bind_eq_some_iff.mp h
          obtain ⟨r5, hc5, h⟩ := h
          try dsimp only at h
          refine am_ev_call (.invokevirtual 47) 29 2 506 [.ref 1, .int v2] [.ref 7] rfl rfl rfl rfl (ok_fN_leftOf hc5 D (by omega)) rfl ?_
          replace h := Option.bind_eq_some_iff.mp h
          obtain ⟨r6, hc6, h⟩ := h
          try dsimp only at h
          refine am_ev_call (.invokevirtual 55) 5 2 507 [.ref 7, .int r5] [] rfl rfl rfl rfl (ok_fC_bodyAt hc6 D (by omega)) rfl ?_
          refine am_ev_st 2 (f' := am_br (r6 = (-1 : Int32)) 90 83 [(4, .int r2), (0, .ref 10), (1, .int v1), (2, .int v2), (3, .int v3)] [] (W9 N C E F P Q) k n) (g := True ∧ True ∧ True) (by with_unfolding_all rfl) ⟨trivial, trivial, trivial⟩ ?_
          by_cases c7 : r6 = (-1 : Int32)
          · rw [if_pos c7] at h
            refine am_ev_pos c7 ?_
            refine am_ev_st 4 (f' := am_br ((0 : Int32) = 0) 102 95 [(5, .int (0 : Int32)), (4, .int r2), (0, .ref 10), (1, .int v1), (2, .int v2), (3, .int v3)] [] (W9 N C E F P Q) k n) (g := True ∧ True ∧ True ∧ True ∧ True) (by with_unfolding_all rfl) ⟨trivial, trivial, trivial, trivial, trivial⟩ ?_
            refine am_ev_pos (by decide) ?_
            refine am_ev_st 1 (f' := (103, [(5, .int (0 : Int32)), (4, .int r2), (0, .ref 10), (1, .int v1), (2, .int v2), (3, .int v3)], [.int (-1 : Int32)], (W9 N C E F P Q), k, n)) (g := True ∧ True) (by with_unfolding_all rfl) ⟨trivial, trivial⟩ ?_
            cases h
            exact am_ev_ret 0 0 0 rfl .int rfl rfl rfl
          · rw [if_neg c7] at h
            refine am_ev_neg c7 ?_
            refine am_ev_st 5 (f' := am_br ((1 : Int32) = 0) 102 95 [(5, .int (1 : Int32)), (4, .int r2), (0, .ref 10), (1, .int v1), (2, .int v2), (3, .int v3)] [] (W9 N C E F P Q) k n) (g := True ∧ True ∧ True ∧ True ∧ True ∧ True) (by with_unfolding_all rfl) ⟨trivial, trivial, trivial, trivial, trivial, trivial⟩ ?_
            refine am_ev_neg (by decide) ?_
            refine am_ev_st 2 (f' := (103, [(5, .int (1 : Int32)), (4, .int r2), (0, .ref 10), (1, .int v1), (2, .int v2), (3, .int v3)], [.int v2], (W9 N C E F P Q), k, n)) (g := True ∧ True ∧ True) (by with_unfolding_all rfl) ⟨trivial, trivial, trivial⟩ ?_
            cases h
            exact am_ev_ret 0 0 0 rfl .int rfl rfl rfl
      · rw [if_neg c3] at h
        refine am_ev_neg c3 ?_
        refine am_ev_st 1 (f' := (60, [(4, .int r2), (0, .ref 10), (1, .int v1), (2, .int v2), (3, .int v3)], [.int v3], (W9 N C E F P Q), k, n)) (g := True ∧ True) (by with_unfolding_all rfl) ⟨trivial, trivial⟩ ?_
        cases h
        exact am_ev_ret 0 0 0 rfl .int rfl rfl rfl
    · rw [if_neg c1] at h
      refine am_ev_neg c1 ?_
      refine am_ev_st 3 (f' := (19, [(0, .ref 10), (1, .int v1), (2, .int v2), (3, .int v3), (4, .int v4)], [.int v2, .ref 1], (W9 N C E F P Q), k, n)) (g := True ∧ True ∧ True ∧ True) (by with_unfolding_all rfl) ⟨trivial, trivial, trivial, trivial⟩ ?_
      replace h := Option.bind_eq_some_iff.mp h
      obtain ⟨r8, hc8, h⟩ := h
      try dsimp only at h
      refine am_ev_call (.invokevirtual 52) 28 2 505 [.ref 1, .int v2] [] rfl rfl rfl rfl (ok_fN_kindOf hc8 D (by omega)) rfl ?_
      refine am_ev_st 2 (f' := am_br (r8 ≠ (4 : Int32)) 43 23 [(0, .ref 10), (1, .int v1), (2, .int v2), (3, .int v3), (4, .int v4)] [] (W9 N C E F P Q) k n) (g := True ∧ True ∧ True) (by with_unfolding_all rfl) ⟨trivial, trivial, trivial⟩ ?_
      by_cases c9 : r8 ≠ (4 : Int32)
      · rw [if_pos c9] at h
        refine am_ev_pos c9 ?_
        refine am_ev_st 3 (f' := (48, [(0, .ref 10), (1, .int v1), (2, .int v2), (3, .int v3), (4, .int v4)], [.int v2, .ref 1], (W9 N C E F P Q), k, n)) (g := True ∧ True ∧ True ∧ True) (by with_unfolding_all rfl) ⟨trivial, trivial, trivial, trivial⟩ ?_
        replace h := Option.bind_eq_some_iff.mp h
        obtain ⟨r10, hc10, h⟩ := h
        try dsimp only at h
        refine am_ev_call (.invokevirtual 52) 28 2 505 [.ref 1, .int v2] [] rfl rfl rfl rfl (ok_fN_kindOf hc10 D (by omega)) rfl ?_
        refine am_ev_st 4 (f' := am_br (r10 ≠ (3 : Int32)) 61 56 [(4, .int r10), (0, .ref 10), (1, .int v1), (2, .int v2), (3, .int v3)] [] (W9 N C E F P Q) k n) (g := True ∧ True ∧ True ∧ True ∧ True) (by with_unfolding_all rfl) ⟨trivial, trivial, trivial, trivial, trivial⟩ ?_
        by_cases c11 : r10 ≠ (3 : Int32)
        · rw [if_pos c11] at h
          refine am_ev_pos c11 ?_
          refine am_ev_st 3 (f' := am_br (r10 ≠ (5 : Int32)) 90 64 [(4, .int r10), (0, .ref 10), (1, .int v1), (2, .int v2), (3, .int v3)] [] (W9 N C E F P Q) k n) (g := True ∧ True ∧ True ∧ True) (by with_unfolding_all rfl) ⟨trivial, trivial, trivial, trivial⟩ ?_
          by_cases c12 : r10 ≠ (5 : Int32)
          · rw [if_pos c12] at h
            refine am_ev_pos c12 ?_
            refine am_ev_st 4 (f' := am_br ((0 : Int32) = 0) 102 95 [(5, .int (0 : Int32)), (4, .int r10), (0, .ref 10), (1, .int v1), (2, .int v2), (3, .int v3)] [] (W9 N C E F P Q) k n) (g := True ∧ True ∧ True ∧ True ∧ True) (by with_unfolding_all rfl) ⟨trivial, trivial, trivial, trivial, trivial⟩ ?_
            refine am_ev_pos (by decide) ?_
            refine am_ev_st 1 (f' := (103, [(5, .int (0 : Int32)), (4, .int r10), (0, .ref 10), (1, .int v1), (2, .int v2), (3, .int v3)], [.int (-1 : Int32)], (W9 N C E F P Q), k, n)) (g := True ∧ True) (by with_unfolding_all rfl) ⟨trivial, trivial⟩ ?_
            cases h
            exact am_ev_ret 0 0 0 rfl .int rfl rfl rfl
          · rw [if_neg c12] at h
            refine am_ev_neg c12 ?_
            refine am_ev_st 5 (f' := (76, [(4, .int r10), (0, .ref 10), (1, .int v1), (2, .int v2), (3, .int v3)], [.int v2, .ref 1, .ref 7], (W9 N C E F P Q), k, n)) (g := True ∧ True ∧ True ∧ True ∧ True ∧ True) (by with_unfolding_all rfl) ⟨trivial, trivial, trivial, trivial, trivial, trivial⟩ ?_
            replace h := Option.bind_eq_some_iff.mp h
            obtain ⟨r13, hc13, h⟩ := h
            try dsimp only at h
            refine am_ev_call (.invokevirtual 47) 29 2 506 [.ref 1, .int v2] [.ref 7] rfl rfl rfl rfl (ok_fN_leftOf hc13 D (by omega)) rfl ?_
            replace h := Option.bind_eq_some_iff.mp h
            obtain ⟨r14, hc14, h⟩ := h
            try dsimp only at h
            refine am_ev_call (.invokevirtual 55) 5 2 507 [.ref 7, .int r13] [] rfl rfl rfl rfl (ok_fC_bodyAt hc14 D (by omega)) rfl ?_
            refine am_ev_st 2 (f' := am_br (r14 = (-1 : Int32)) 90 83 [(4, .int r10), (0, .ref 10), (1, .int v1), (2, .int v2), (3, .int v3)] [] (W9 N C E F P Q) k n) (g := True ∧ True ∧ True) (by with_unfolding_all rfl) ⟨trivial, trivial, trivial⟩ ?_
            by_cases c15 : r14 = (-1 : Int32)
            · rw [if_pos c15] at h
              refine am_ev_pos c15 ?_
              refine am_ev_st 4 (f' := am_br ((0 : Int32) = 0) 102 95 [(5, .int (0 : Int32)), (4, .int r10), (0, .ref 10), (1, .int v1), (2, .int v2), (3, .int v3)] [] (W9 N C E F P Q) k n) (g := True ∧ True ∧ True ∧ True ∧ True) (by with_unfolding_all rfl) ⟨trivial, trivial, trivial, trivial, trivial⟩ ?_
              refine am_ev_pos (by decide) ?_
              refine am_ev_st 1 (f' := (103, [(5, .int (0 : Int32)), (4, .int r10), (0, .ref 10), (1, .int v1), (2, .int v2), (3, .int v3)], [.int (-1 : Int32)], (W9 N C E F P Q), k, n)) (g := True ∧ True) (by with_unfolding_all rfl) ⟨trivial, trivial⟩ ?_
              cases h
              exact am_ev_ret 0 0 0 rfl .int rfl rfl rfl
            · rw [if_neg c15] at h
              refine am_ev_neg c15 ?_
              refine am_ev_st 5 (f' := am_br ((1 : Int32) = 0) 102 95 [(5, .int (1 : Int32)), (4, .int r10), (0, .ref 10), (1, .int v1), (2, .int v2), (3, .int v3)] [] (W9 N C E F P Q) k n) (g := True ∧ True ∧ True ∧ True ∧ True ∧ True) (by with_unfolding_all rfl) ⟨trivial, trivial, trivial, trivial, trivial, trivial⟩ ?_
              refine am_ev_neg (by decide) ?_
              refine am_ev_st 2 (f' := (103, [(5, .int (1 : Int32)), (4, .int r10), (0, .ref 10), (1, .int v1), (2, .int v2), (3, .int v3)], [.int v2], (W9 N C E F P Q), k, n)) (g := True ∧ True ∧ True) (by with_unfolding_all rfl) ⟨trivial, trivial, trivial⟩ ?_
              cases h
              exact am_ev_ret 0 0 0 rfl .int rfl rfl rfl
        · rw [if_neg c11] at h
          refine am_ev_neg c11 ?_
          refine am_ev_st 1 (f' := (60, [(4, .int r10), (0, .ref 10), (1, .int v1), (2, .int v2), (3, .int v3)], [.int v3], (W9 N C E F P Q), k, n)) (g := True ∧ True) (by with_unfolding_all rfl) ⟨trivial, trivial⟩ ?_
          cases h
          exact am_ev_ret 0 0 0 rfl .int rfl rfl rfl
      · rw [if_neg c9] at h
        refine am_ev_neg c9 ?_
        refine am_ev_st 5 (f' := (33, [(3, .int v2), (0, .ref 10), (1, .int v1), (2, .int v2), (4, .int v4)], [.int v2, .ref 1], (W9 N C E F P Q), k, n)) (g := True ∧ True ∧ True ∧ True ∧ True ∧ True) (by with_unfolding_all rfl) ⟨trivial, trivial, trivial, trivial, trivial, trivial⟩ ?_
        replace h := Option.bind_eq_some_iff.mp h
        obtain ⟨r16, hc16, h⟩ := h
        try dsimp only at h
        refine am_ev_call (.invokevirtual 47) 29 2 506 [.ref 1, .int v2] [] rfl rfl rfl rfl (ok_fN_leftOf hc16 D (by omega)) rfl ?_
        refine am_ev_st 3 (f' := (7, [(4, .int (v4 + (1 : Int32))), (2, .int r16), (3, .int v2), (0, .ref 10), (1, .int v1)], [], (W9 N C E F P Q), k, n)) (g := True ∧ True ∧ True ∧ True) (by with_unfolding_all rfl) ⟨trivial, trivial, trivial, trivial⟩ ?_
        refine am_ev_drop [3, 4, 1, 2, 0] rfl rfl ?_
        exact ih h
set_option maxHeartbeats 4000000 in
set_option maxRecDepth 100000 in
theorem ok_fE_nextPlace {fl : Nat} {N : cN} {C : cC} {E : cE} {F : cF} {P : cP} {Q : cQ} {k n : Nat} {p1 : Int32} {rv : Int32} (h : fE_nextPlace fl N C p1 = some rv) (D : Nat) (hD : 3 ≤ D) : am_Call D 49 [.ref 10, .int p1] (W9 N C E F P Q) k n (.inl (some (.int rv)), W9 N C E F P Q, k, n) := by
  unfold fE_nextPlace at h
  obtain ⟨D, rfl⟩ : ∃ D', D = D' + 1 := ⟨D - 1, by omega⟩
  have hD : 2 ≤ D := by omega
  refine am_call_run (by decide) (by decide) rfl (Nat.le_of_ble_eq_true rfl) (by decide) (L := [(0, .ref 10), (1, .int p1)]) rfl ?_
  refine am_ev_st 6 (f' := (7, [(4, .int (0 : Int32)), (3, .int (-1 : Int32)), (2, .int p1), (0, .ref 10), (1, .int p1)], [], (W9 N C E F P Q), k, n)) (g := True ∧ True ∧ True ∧ True ∧ True ∧ True ∧ True) (by with_unfolding_all rfl) ⟨trivial, trivial, trivial, trivial, trivial, trivial, trivial⟩ ?_
  refine am_ev_drop [3, 4, 2, 1, 0] rfl rfl ?_
  exact ok_lp_fE_nextPlace_7 h D hD
def lp_fE_headForm_4 (fl : Nat) (d : Nat) : Nat → cN → cC → cE → Nat → Nat → Int32 → Int32 → Int32 → Option (((Int32) ⊕ Nat) × cN × cE × (Nat × Nat))
  | 0, _, _, _, _, _, _, _, _ => none
  | w + 1, N, C, E, k, n, v1, v2, v3 =>
    if (30 : Int32) < v3 then
    (some (.inr 2, N, E, ((k + 1), (n + 6))))
    else
    (fE_nextPlace fl N C v2).bind fun z2 =>
    match z2 with
    | (r2) =>
    if r2 ≠ (-1 : Int32) then
    (match E with
    | (fi, se, op, fu, ma) =>
    if ma < fu then
    ((fN_leftOf N r2).bind fun z5 =>
    match z5 with
    | (r5) =>
    (fN_kindOf N r2).bind fun z6 =>
    match z6 with
    | (r6) =>
    if r6 ≠ (5 : Int32) then
    ((fN_rightOf N r5).bind fun z8 =>
    match z8 with
    | (r8) =>
    (fN_rightOf N r2).bind fun z9 =>
    match z9 with
    | (r9) =>
    (fN_changed d N k n r8 (0 : Int32) r9 (-1 : Int32)).bind fun z10 =>
    match z10 with
    | (r10, N_10, (k_10, n_10)) =>
    (fN_withHead d N_10 k_10 n_10 v2 r2 r10).bind fun z11 =>
    match z11 with
    | (r11, N_11, (k_11, n_11)) =>
    (fN_isTooMuch N_11 r11).bind fun z12 =>
    match z12 with
    | (r12) =>
    if (am_bz r12) = 0 then
    (lp_fE_headForm_4 fl d w N_11 C (fi, se, op, fu, (ma + (1 : Int32))) k_11 n_11 v1 r11 (v3 + (1 : Int32)))
    else
    some (.inr 2, N_11, E, ((k_11 + 1), (n_11 + 6))))
    else
    (fC_bodyAt C r5).bind fun z14 =>
    match z14 with
    | (r14) =>
    (fN_withHead d N k n v2 r2 r14).bind fun z15 =>
    match z15 with
    | (r15, N_15, (k_15, n_15)) =>
    (fN_isTooMuch N_15 r15).bind fun z16 =>
    match z16 with
    | (r16) =>
    if (am_bz r16) = 0 then
    (lp_fE_headForm_4 fl d w N_15 C (fi, se, op, fu, (ma + (1 : Int32))) k_15 n_15 v1 r15 (v3 + (1 : Int32)))
    else
    some (.inr 2, N_15, E, ((k_15 + 1), (n_15 + 6))))
    else
    some (.inr 2, N, E, ((k + 1), (n + 6))))
    else
    some (.inl v2, N, E, (k, n))
def fE_headForm (fl : Nat) (d : Nat) (N : cN) (C : cC) (E : cE) (k n : Nat) (p1 : Int32) : Option (((Int32) ⊕ Nat) × cN × cE × (Nat × Nat)) :=
  lp_fE_headForm_4 fl d fl N C E k n p1 p1 (0 : Int32)
set_option maxHeartbeats 4000000 in
set_option maxRecDepth 100000 in
theorem ok_lp_fE_headForm_4 {fl d : Nat} : ∀ {w : Nat} {N : cN} {C : cC} {E : cE} {F : cF} {P : cP} {Q : cQ} {k n : Nat} {v1 : Int32} {v2 : Int32} {v3 : Int32} {rv : (Int32) ⊕ Nat} {N' : cN} {E' : cE} {k' n' : Nat} (h : lp_fE_headForm_4 fl d w N C E k n v1 v2 v3 = some (rv, N', E', (k', n'))) (D : Nat) (hD : d + 3 ≤ D), am_Ev D 48 0 (fun _ => 0) (4, [(0, .ref 10), (1, .int v1), (2, .int v2), (3, .int v3)], [], (W9 N C E F P Q), k, n) (am_oI rv, W9 N' C E' F P Q, k', n') := by
  intro w
  induction w with
  | zero => intros; rename_i h _ _; cases h
  | succ w ih0 =>
    intro N C E F P Q k n v1 v2 v3 rv N' E' k' n' h D hD
    have ih := fun {N} {C} {E} {F} {P} {Q} {k} {n} {v1} {v2} {v3} {rv} {N'} {E'} {k'} {n'} h => @ih0 N C E F P Q k n v1 v2 v3 rv N' E' k' n' h D hD
    unfold lp_fE_headForm_4 at h
    refine am_ev_st 3 (f' := am_br ((30 : Int32) < v3) 173 7 [(0, .ref 10), (1, .int v1), (2, .int v2), (3, .int v3)] [] (W9 N C E F P Q) k n) (g := True ∧ True ∧ True ∧ True) (by with_unfolding_all rfl) ⟨trivial, trivial, trivial, trivial⟩ ?_
    by_cases c1 : (30 : Int32) < v3
    · rw [if_pos c1] at h
      refine am_ev_pos c1 ?_
      cases h
      exact am_ev_throw (.new 40) 9 2 508 rfl _ rfl rfl rfl rfl rfl rfl rfl
    · rw [if_neg c1] at h
      refine am_ev_neg c1 ?_
      refine am_ev_st 2 (f' := (12, [(0, .ref 10), (1, .int v1), (2, .int v2), (3, .int v3)], [.int v2, .ref 10], (W9 N C E F P Q), k, n)) (g := True ∧ True ∧ True) (by with_unfolding_all rfl) ⟨trivial, trivial, trivial⟩ ?_
      replace h := Option.bind_eq_some_iff.mp h
      obtain ⟨r2, hc2, h⟩ := h
      try dsimp only at h
      refine am_ev_call (.invokevirtual 36) 49 2 501 [.ref 10, .int v2] [] rfl rfl rfl rfl (ok_fE_nextPlace hc2 D (by omega)) rfl ?_
      refine am_ev_st 4 (f' := am_br (r2 ≠ (-1 : Int32)) 25 20 [(4, .int r2), (0, .ref 10), (1, .int v1), (2, .int v2), (3, .int v3)] [] (W9 N C E F P Q) k n) (g := True ∧ True ∧ True ∧ True ∧ True) (by with_unfolding_all rfl) ⟨trivial, trivial, trivial, trivial, trivial⟩ ?_
      by_cases c3 : r2 ≠ (-1 : Int32)
      · rw [if_pos c3] at h
        refine am_ev_pos c3 ?_
        obtain ⟨fi, se, op, fu, ma⟩ := E
        try dsimp only at h
        refine am_ev_st 5 (f' := am_br (ma < fu) 46 33 [(4, .int r2), (0, .ref 10), (1, .int v1), (2, .int v2), (3, .int v3)] [] (W9 N C (fi, se, op, fu, ma) F P Q) k n) (g := True ∧ True ∧ True ∧ True ∧ True ∧ True) (by with_unfolding_all rfl) ⟨trivial, trivial, trivial, trivial, trivial, trivial⟩ ?_
        by_cases c4 : ma < fu
        · rw [if_pos c4] at h
          refine am_ev_pos c4 ?_
          refine am_ev_st 3 (f' := (52, [(4, .int r2), (0, .ref 10), (1, .int v1), (2, .int v2), (3, .int v3)], [.int r2, .ref 1], (W9 N C (fi, se, op, fu, ma) F P Q), k, n)) (g := True ∧ True ∧ True ∧ True) (by with_unfolding_all rfl) ⟨trivial, trivial, trivial, trivial⟩ ?_
          replace h := Option.bind_eq_some_iff.mp h
          obtain ⟨r5, hc5, h⟩ := h
          try dsimp only at h
          refine am_ev_call (.invokevirtual 47) 29 2 506 [.ref 1, .int r2] [] rfl rfl rfl rfl (ok_fN_leftOf hc5 D (by omega)) rfl ?_
          refine am_ev_st 4 (f' := (63, [(5, .int r5), (4, .int r2), (0, .ref 10), (1, .int v1), (2, .int v2), (3, .int v3)], [.int r2, .ref 1], (W9 N C (fi, se, op, fu, ma) F P Q), k, n)) (g := True ∧ True ∧ True ∧ True ∧ True) (by with_unfolding_all rfl) ⟨trivial, trivial, trivial, trivial, trivial⟩ ?_
          replace h := Option.bind_eq_some_iff.mp h
          obtain ⟨r6, hc6, h⟩ := h
          try dsimp only at h
          refine am_ev_call (.invokevirtual 52) 28 2 505 [.ref 1, .int r2] [] rfl rfl rfl rfl (ok_fN_kindOf hc6 D (by omega)) rfl ?_
          refine am_ev_st 2 (f' := am_br (r6 ≠ (5 : Int32)) 74 67 [(5, .int r5), (4, .int r2), (0, .ref 10), (1, .int v1), (2, .int v2), (3, .int v3)] [] (W9 N C (fi, se, op, fu, ma) F P Q) k n) (g := True ∧ True ∧ True) (by with_unfolding_all rfl) ⟨trivial, trivial, trivial⟩ ?_
          by_cases c7 : r6 ≠ (5 : Int32)
          · rw [if_pos c7] at h
            refine am_ev_pos c7 ?_
            refine am_ev_st 4 (f' := am_br ((0 : Int32) = 0) 94 79 [(6, .int (0 : Int32)), (5, .int r5), (4, .int r2), (0, .ref 10), (1, .int v1), (2, .int v2), (3, .int v3)] [] (W9 N C (fi, se, op, fu, ma) F P Q) k n) (g := True ∧ True ∧ True ∧ True ∧ True) (by with_unfolding_all rfl) ⟨trivial, trivial, trivial, trivial, trivial⟩ ?_
            refine am_ev_pos (by decide) ?_
            refine am_ev_st 5 (f' := (104, [(6, .int (0 : Int32)), (5, .int r5), (4, .int r2), (0, .ref 10), (1, .int v1), (2, .int v2), (3, .int v3)], [.int r5, .ref 1, .ref 1], (W9 N C (fi, se, op, fu, ma) F P Q), k, n)) (g := True ∧ True ∧ True ∧ True ∧ True ∧ True) (by with_unfolding_all rfl) ⟨trivial, trivial, trivial, trivial, trivial, trivial⟩ ?_
            replace h := Option.bind_eq_some_iff.mp h
            obtain ⟨r8, hc8, h⟩ := h
            try dsimp only at h
            refine am_ev_call (.invokevirtual 60) 30 2 511 [.ref 1, .int r5] [.ref 1] rfl rfl rfl rfl (ok_fN_rightOf hc8 D (by omega)) rfl ?_
            refine am_ev_st 4 (f' := (114, [(6, .int (0 : Int32)), (5, .int r5), (4, .int r2), (0, .ref 10), (1, .int v1), (2, .int v2), (3, .int v3)], [.int r2, .ref 1, .int (0 : Int32), .int r8, .ref 1], (W9 N C (fi, se, op, fu, ma) F P Q), k, n)) (g := True ∧ True ∧ True ∧ True ∧ True) (by with_unfolding_all rfl) ⟨trivial, trivial, trivial, trivial, trivial⟩ ?_
            replace h := Option.bind_eq_some_iff.mp h
            obtain ⟨r9, hc9, h⟩ := h
            try dsimp only at h
            refine am_ev_call (.invokevirtual 60) 30 2 511 [.ref 1, .int r2] [.int (0 : Int32), .int r8, .ref 1] rfl rfl rfl rfl (ok_fN_rightOf hc9 D (by omega)) rfl ?_
            refine am_ev_st 1 (f' := (118, [(6, .int (0 : Int32)), (5, .int r5), (4, .int r2), (0, .ref 10), (1, .int v1), (2, .int v2), (3, .int v3)], [.int (-1 : Int32), .int r9, .int (0 : Int32), .int r8, .ref 1], (W9 N C (fi, se, op, fu, ma) F P Q), k, n)) (g := True ∧ True) (by with_unfolding_all rfl) ⟨trivial, trivial⟩ ?_
            replace h := Option.bind_eq_some_iff.mp h
            obtain ⟨⟨r10, N_10, ⟨k_10, n_10⟩⟩, hc10, h⟩ := h
            try dsimp only at h
            refine am_ev_call (.invokevirtual 63) 43 8 512 [.ref 1, .int r8, .int (0 : Int32), .int r9, .int (-1 : Int32)] [] rfl rfl rfl rfl (ok_fN_changed hc10 D (by omega)) rfl ?_
            refine am_ev_st 6 (f' := (132, [(7, .int r10), (6, .int (0 : Int32)), (5, .int r5), (4, .int r2), (0, .ref 10), (1, .int v1), (2, .int v2), (3, .int v3)], [.int r10, .int r2, .int v2, .ref 1], (W9 N_10 C (fi, se, op, fu, ma) F P Q), k_10, n_10)) (g := True ∧ True ∧ True ∧ True ∧ True ∧ True ∧ True) (by with_unfolding_all rfl) ⟨trivial, trivial, trivial, trivial, trivial, trivial, trivial⟩ ?_
            replace h := Option.bind_eq_some_iff.mp h
            obtain ⟨⟨r11, N_11, ⟨k_11, n_11⟩⟩, hc11, h⟩ := h
            try dsimp only at h
            refine am_ev_call (.invokevirtual 67) 44 6 513 [.ref 1, .int v2, .int r2, .int r10] [] rfl rfl rfl rfl (ok_fN_withHead hc11 D (by omega)) rfl ?_
            refine am_ev_st 4 (f' := (141, [(2, .int r11), (7, .int r10), (6, .int (0 : Int32)), (5, .int r5), (4, .int r2), (0, .ref 10), (1, .int v1), (3, .int v3)], [.int r11, .ref 1], (W9 N_11 C (fi, se, op, fu, ma) F P Q), k_11, n_11)) (g := True ∧ True ∧ True ∧ True ∧ True) (by with_unfolding_all rfl) ⟨trivial, trivial, trivial, trivial, trivial⟩ ?_
            replace h := Option.bind_eq_some_iff.mp h
            obtain ⟨r12, hc12, h⟩ := h
            try dsimp only at h
            refine am_ev_call (.invokevirtual 71) 34 2 518 [.ref 1, .int r11] [] rfl rfl rfl rfl (ok_fN_isTooMuch hc12 D (by omega)) rfl ?_
            refine am_ev_st 1 (f' := am_br ((am_bz r12) = 0) 157 144 [(2, .int r11), (7, .int r10), (6, .int (0 : Int32)), (5, .int r5), (4, .int r2), (0, .ref 10), (1, .int v1), (3, .int v3)] [] (W9 N_11 C (fi, se, op, fu, ma) F P Q) k_11 n_11) (g := True ∧ True) (by with_unfolding_all rfl) ⟨trivial, trivial⟩ ?_
            by_cases c13 : (am_bz r12) = 0
            · rw [if_pos c13] at h
              refine am_ev_pos c13 ?_
              refine am_ev_st 8 (f' := (4, [(3, .int (v3 + (1 : Int32))), (2, .int r11), (7, .int r10), (6, .int (0 : Int32)), (5, .int r5), (4, .int r2), (0, .ref 10), (1, .int v1)], [], (W9 N_11 C (fi, se, op, fu, (ma + (1 : Int32))) F P Q), k_11, n_11)) (g := True ∧ True ∧ True ∧ True ∧ True ∧ True ∧ True ∧ True ∧ True) (by with_unfolding_all rfl) ⟨trivial, trivial, trivial, trivial, trivial, trivial, trivial, trivial, trivial⟩ ?_
              refine am_ev_drop [6, 7, 1, 0] rfl rfl ?_
              exact ih h
            · rw [if_neg c13] at h
              refine am_ev_neg c13 ?_
              cases h
              exact am_ev_throw (.new 40) 8 2 508 rfl _ rfl rfl rfl rfl rfl rfl rfl
          · rw [if_neg c7] at h
            refine am_ev_neg c7 ?_
            refine am_ev_st 5 (f' := am_br ((1 : Int32) = 0) 94 79 [(6, .int (1 : Int32)), (5, .int r5), (4, .int r2), (0, .ref 10), (1, .int v1), (2, .int v2), (3, .int v3)] [] (W9 N C (fi, se, op, fu, ma) F P Q) k n) (g := True ∧ True ∧ True ∧ True ∧ True ∧ True) (by with_unfolding_all rfl) ⟨trivial, trivial, trivial, trivial, trivial, trivial⟩ ?_
            refine am_ev_neg (by decide) ?_
            refine am_ev_st 3 (f' := (88, [(6, .int (1 : Int32)), (5, .int r5), (4, .int r2), (0, .ref 10), (1, .int v1), (2, .int v2), (3, .int v3)], [.int r5, .ref 7], (W9 N C (fi, se, op, fu, ma) F P Q), k, n)) (g := True ∧ True ∧ True ∧ True) (by with_unfolding_all rfl) ⟨trivial, trivial, trivial, trivial⟩ ?_
            replace h := Option.bind_eq_some_iff.mp h
            obtain ⟨r14, hc14, h⟩ := h
            try dsimp only at h
            refine am_ev_call (.invokevirtual 55) 5 2 507 [.ref 7, .int r5] [] rfl rfl rfl rfl (ok_fC_bodyAt hc14 D (by omega)) rfl ?_
            refine am_ev_st 7 (f' := (132, [(7, .int r14), (6, .int (1 : Int32)), (5, .int r5), (4, .int r2), (0, .ref 10), (1, .int v1), (2, .int v2), (3, .int v3)], [.int r14, .int r2, .int v2, .ref 1], (W9 N C (fi, se, op, fu, ma) F P Q), k, n)) (g := True ∧ True ∧ True ∧ True ∧ True ∧ True ∧ True ∧ True) (by with_unfolding_all rfl) ⟨trivial, trivial, trivial, trivial, trivial, trivial, trivial, trivial⟩ ?_
            replace h := Option.bind_eq_some_iff.mp h
            obtain ⟨⟨r15, N_15, ⟨k_15, n_15⟩⟩, hc15, h⟩ := h
            try dsimp only at h
            refine am_ev_call (.invokevirtual 67) 44 6 513 [.ref 1, .int v2, .int r2, .int r14] [] rfl rfl rfl rfl (ok_fN_withHead hc15 D (by omega)) rfl ?_
            refine am_ev_st 4 (f' := (141, [(2, .int r15), (7, .int r14), (6, .int (1 : Int32)), (5, .int r5), (4, .int r2), (0, .ref 10), (1, .int v1), (3, .int v3)], [.int r15, .ref 1], (W9 N_15 C (fi, se, op, fu, ma) F P Q), k_15, n_15)) (g := True ∧ True ∧ True ∧ True ∧ True) (by with_unfolding_all rfl) ⟨trivial, trivial, trivial, trivial, trivial⟩ ?_
            replace h := Option.bind_eq_some_iff.mp h
            obtain ⟨r16, hc16, h⟩ := h
            try dsimp only at h
            refine am_ev_call (.invokevirtual 71) 34 2 518 [.ref 1, .int r15] [] rfl rfl rfl rfl (ok_fN_isTooMuch hc16 D (by omega)) rfl ?_
            refine am_ev_st 1 (f' := am_br ((am_bz r16) = 0) 157 144 [(2, .int r15), (7, .int r14), (6, .int (1 : Int32)), (5, .int r5), (4, .int r2), (0, .ref 10), (1, .int v1), (3, .int v3)] [] (W9 N_15 C (fi, se, op, fu, ma) F P Q) k_15 n_15) (g := True ∧ True) (by with_unfolding_all rfl) ⟨trivial, trivial⟩ ?_
            by_cases c17 : (am_bz r16) = 0
            · rw [if_pos c17] at h
              refine am_ev_pos c17 ?_
              refine am_ev_st 8 (f' := (4, [(3, .int (v3 + (1 : Int32))), (2, .int r15), (7, .int r14), (6, .int (1 : Int32)), (5, .int r5), (4, .int r2), (0, .ref 10), (1, .int v1)], [], (W9 N_15 C (fi, se, op, fu, (ma + (1 : Int32))) F P Q), k_15, n_15)) (g := True ∧ True ∧ True ∧ True ∧ True ∧ True ∧ True ∧ True ∧ True) (by with_unfolding_all rfl) ⟨trivial, trivial, trivial, trivial, trivial, trivial, trivial, trivial, trivial⟩ ?_
              refine am_ev_drop [6, 7, 1, 0] rfl rfl ?_
              exact ih h
            · rw [if_neg c17] at h
              refine am_ev_neg c17 ?_
              cases h
              exact am_ev_throw (.new 40) 8 2 508 rfl _ rfl rfl rfl rfl rfl rfl rfl
        · rw [if_neg c4] at h
          refine am_ev_neg c4 ?_
          cases h
          exact am_ev_throw (.new 40) 7 2 508 rfl _ rfl rfl rfl rfl rfl rfl rfl
      · rw [if_neg c3] at h
        refine am_ev_neg c3 ?_
        refine am_ev_st 1 (f' := (24, [(4, .int r2), (0, .ref 10), (1, .int v1), (2, .int v2), (3, .int v3)], [.int v2], (W9 N C E F P Q), k, n)) (g := True ∧ True) (by with_unfolding_all rfl) ⟨trivial, trivial⟩ ?_
        cases h
        exact am_ev_ret 0 0 0 rfl .int rfl rfl rfl
set_option maxHeartbeats 4000000 in
set_option maxRecDepth 100000 in
theorem ok_fE_headForm {fl d : Nat} {N : cN} {C : cC} {E : cE} {F : cF} {P : cP} {Q : cQ} {k n : Nat} {p1 : Int32} {rv : (Int32) ⊕ Nat} {N' : cN} {E' : cE} {k' n' : Nat} (h : fE_headForm fl d N C E k n p1 = some (rv, N', E', (k', n'))) (D : Nat) (hD : d + 4 ≤ D) : am_Call D 48 [.ref 10, .int p1] (W9 N C E F P Q) k n (am_oI rv, W9 N' C E' F P Q, k', n') := by
  unfold fE_headForm at h
  obtain ⟨D, rfl⟩ : ∃ D', D = D' + 1 := ⟨D - 1, by omega⟩
  have hD : d + 3 ≤ D := by omega
  refine am_call_run (by decide) (by decide) rfl (Nat.le_of_ble_eq_true rfl) (by decide) (L := [(0, .ref 10), (1, .int p1)]) rfl ?_
  refine am_ev_st 4 (f' := (4, [(3, .int (0 : Int32)), (2, .int p1), (0, .ref 10), (1, .int p1)], [], (W9 N C E F P Q), k, n)) (g := True ∧ True ∧ True ∧ True ∧ True) (by with_unfolding_all rfl) ⟨trivial, trivial, trivial, trivial, trivial⟩ ?_
  refine am_ev_drop [2, 3, 1, 0] rfl rfl ?_
  exact ok_lp_fE_headForm_4 h D hD
def fF_levelOf (fl : Nat) (d : Nat) (N : cN) (C : cC) (E : cE) (k n : Nat) (p1 : Int32) : Option (((Int32) ⊕ Nat) × cN × cE × (Nat × Nat)) :=
  (fE_headForm fl d N C E k n p1).bind fun z1 =>
  match z1 with
  | (.inl r1, N_1, E_1, (k_1, n_1)) =>
  ((fN_kindOf N_1 r1).bind fun z2 =>
  match z2 with
  | (r2) =>
  if r2 = (1 : Int32) then
  ((fN_leftOf N_1 r1).bind fun z4 =>
  match z4 with
  | (r4) =>
  some (.inl r4, N_1, E_1, (k_1, n_1)))
  else
  some (.inr 1, N_1, E_1, ((k_1 + 1), (n_1 + 6))))
  | (.inr e1, N_1, E_1, (k_1, n_1)) =>
  (some (.inr e1, N_1, E_1, (k_1, n_1)))
set_option maxHeartbeats 4000000 in
set_option maxRecDepth 100000 in
theorem ok_fF_levelOf {fl d : Nat} {N : cN} {C : cC} {E : cE} {F : cF} {P : cP} {Q : cQ} {k n : Nat} {p1 : Int32} {rv : (Int32) ⊕ Nat} {N' : cN} {E' : cE} {k' n' : Nat} (h : fF_levelOf fl d N C E k n p1 = some (rv, N', E', (k', n'))) (D : Nat) (hD : d + 5 ≤ D) : am_Call D 10 [.ref 13, .int p1] (W9 N C E F P Q) k n (am_oI rv, W9 N' C E' F P Q, k', n') := by
  unfold fF_levelOf at h
  obtain ⟨D, rfl⟩ : ∃ D', D = D' + 1 := ⟨D - 1, by omega⟩
  have hD : d + 4 ≤ D := by omega
  refine am_call_run (by decide) (by decide) rfl (Nat.le_of_ble_eq_true rfl) (by decide) (L := [(0, .ref 13), (1, .int p1)]) rfl ?_
  refine am_ev_st 3 (f' := (5, [(0, .ref 13), (1, .int p1)], [.int p1, .ref 10], (W9 N C E F P Q), k, n)) (g := True ∧ True ∧ True ∧ True) (by with_unfolding_all rfl) ⟨trivial, trivial, trivial, trivial⟩ ?_
  replace h := Option.bind_eq_some_iff.mp h
  obtain ⟨⟨r1 | e1, N_1, E_1, ⟨k_1, n_1⟩⟩, hc1, h⟩ := h
  · dsimp only at h
    refine am_ev_call (.invokevirtual 65) 48 2 497 [.ref 10, .int p1] [] rfl rfl rfl rfl (ok_fE_headForm hc1 D (by omega)) rfl ?_
    refine am_ev_st 4 (f' := (14, [(2, .int r1), (0, .ref 13), (1, .int p1)], [.int r1, .ref 1], (W9 N_1 C E_1 F P Q), k_1, n_1)) (g := True ∧ True ∧ True ∧ True ∧ True) (by with_unfolding_all rfl) ⟨trivial, trivial, trivial, trivial, trivial⟩ ?_
    replace h := Option.bind_eq_some_iff.mp h
    obtain ⟨r2, hc2, h⟩ := h
    try dsimp only at h
    refine am_ev_call (.invokevirtual 40) 28 2 458 [.ref 1, .int r1] [] rfl rfl rfl rfl (ok_fN_kindOf hc2 D (by omega)) rfl ?_
    refine am_ev_st 2 (f' := am_br (r2 = (1 : Int32)) 31 18 [(2, .int r1), (0, .ref 13), (1, .int p1)] [] (W9 N_1 C E_1 F P Q) k_1 n_1) (g := True ∧ True ∧ True) (by with_unfolding_all rfl) ⟨trivial, trivial, trivial⟩ ?_
    by_cases c3 : r2 = (1 : Int32)
    · rw [if_pos c3] at h
      refine am_ev_pos c3 ?_
      refine am_ev_st 3 (f' := (36, [(2, .int r1), (0, .ref 13), (1, .int p1)], [.int r1, .ref 1], (W9 N_1 C E_1 F P Q), k_1, n_1)) (g := True ∧ True ∧ True ∧ True) (by with_unfolding_all rfl) ⟨trivial, trivial, trivial, trivial⟩ ?_
      replace h := Option.bind_eq_some_iff.mp h
      obtain ⟨r4, hc4, h⟩ := h
      try dsimp only at h
      refine am_ev_call (.invokevirtual 31) 29 2 456 [.ref 1, .int r1] [] rfl rfl rfl rfl (ok_fN_leftOf hc4 D (by omega)) rfl ?_
      cases h
      exact am_ev_ret 0 0 0 rfl .int rfl rfl rfl
    · rw [if_neg c3] at h
      refine am_ev_neg c3 ?_
      cases h
      exact am_ev_throw (.new 70) 0 1 463 rfl _ rfl rfl rfl rfl rfl rfl rfl
  · dsimp only at h
    cases h
    exact am_ev_callx (.invokevirtual 65) 48 2 497 [.ref 10, .int p1] [] rfl rfl rfl rfl (ok_fE_headForm hc1 D (by omega)) rfl rfl rfl
def fF_open (F : cF) (k n : Nat) (p1 : Int32) : Option (((Unit) ⊕ Nat) × cF × (Nat × Nat)) :=
  match F with
  | (tt, tc) =>
  if tc < 0 then
  (some (.inr 2, F, ((k + 1), (n + 6))))
  else
  if tc < (12 : Int32) then
  (if (tc < 0 ∨ 12 ≤ (tc).toNatClampNeg) then none else
  some (.inl (), ((upd tt (tc).toNatClampNeg p1), (tc + (1 : Int32))), (k, n)))
  else
  some (.inr 2, F, ((k + 1), (n + 6)))
set_option maxHeartbeats 4000000 in
set_option maxRecDepth 100000 in
theorem ok_fF_open  {N : cN} {C : cC} {E : cE} {F : cF} {P : cP} {Q : cQ} {k n : Nat} {p1 : Int32} {rv : (Unit) ⊕ Nat} {F' : cF} {k' n' : Nat} (h : fF_open F k n p1 = some (rv, F', (k', n'))) (D : Nat) (hD : 1 ≤ D) : am_Call D 15 [.ref 13, .int p1] (W9 N C E F P Q) k n (am_oV rv, W9 N C E F' P Q, k', n') := by
  unfold fF_open at h
  obtain ⟨D, rfl⟩ : ∃ D', D = D' + 1 := ⟨D - 1, by omega⟩
  have hD : 0 ≤ D := by omega
  refine am_call_run (by decide) (by decide) rfl (Nat.le_of_ble_eq_true rfl) (by decide) (L := [(0, .ref 13), (1, .int p1)]) rfl ?_
  obtain ⟨tt, tc⟩ := F
  try dsimp only at h
  refine am_ev_st 3 (f' := am_br (tc < 0) 16 4 [(0, .ref 13), (1, .int p1)] [] (W9 N C E (tt, tc) P Q) k n) (g := True ∧ True ∧ True ∧ True) (by with_unfolding_all rfl) ⟨trivial, trivial, trivial, trivial⟩ ?_
  by_cases c1 : tc < 0
  · rw [if_pos c1] at h
    refine am_ev_pos c1 ?_
    cases h
    exact am_ev_throw (.new 109) 4 2 529 rfl _ rfl rfl rfl rfl rfl rfl rfl
  · rw [if_neg c1] at h
    refine am_ev_neg c1 ?_
    refine am_ev_st 4 (f' := am_br (tc < (12 : Int32)) 26 13 [(0, .ref 13), (1, .int p1)] [] (W9 N C E (tt, tc) P Q) k n) (g := True ∧ True ∧ True ∧ True ∧ True) (by with_unfolding_all rfl) ⟨trivial, trivial, trivial, trivial, trivial⟩ ?_
    by_cases c2 : tc < (12 : Int32)
    · rw [if_pos c2] at h
      refine am_ev_pos c2 ?_
      by_cases g3 : (tc < 0 ∨ 12 ≤ (tc).toNatClampNeg)
      · rw [if_pos g3] at h; cases h
      rw [if_neg g3] at h
      refine am_ev_st 12 (f' := (46, [(0, .ref 13), (1, .int p1)], [], (W9 N C E ((upd tt (tc).toNatClampNeg p1), (tc + (1 : Int32))) P Q), k, n)) (g := True ∧ True ∧ True ∧ True ∧ True ∧ vp_in (tc) 12 ∧ True ∧ True ∧ True ∧ True ∧ True ∧ True ∧ True) (by with_unfolding_all rfl) ⟨trivial, trivial, trivial, trivial, trivial, g3, trivial, trivial, trivial, trivial, trivial, trivial, trivial⟩ ?_
      cases h
      exact am_ev_vret 0 0 0 rfl rfl rfl
    · rw [if_neg c2] at h
      refine am_ev_neg c2 ?_
      cases h
      exact am_ev_throw (.new 109) 4 2 529 rfl _ rfl rfl rfl rfl rfl rfl rfl
def fF_notTooMuch (N : cN) (k n : Nat) (p1 : Int32) : Option (((Int32) ⊕ Nat) × (Nat × Nat)) :=
  (fN_isTooMuch N p1).bind fun z1 =>
  match z1 with
  | (r1) =>
  if (am_bz r1) = 0 then
  (some (.inl p1, (k, n)))
  else
  some (.inr 2, ((k + 1), (n + 6)))
set_option maxHeartbeats 4000000 in
set_option maxRecDepth 100000 in
theorem ok_fF_notTooMuch  {N : cN} {C : cC} {E : cE} {F : cF} {P : cP} {Q : cQ} {k n : Nat} {p1 : Int32} {rv : (Int32) ⊕ Nat} {k' n' : Nat} (h : fF_notTooMuch N k n p1 = some (rv, (k', n'))) (D : Nat) (hD : 3 ≤ D) : am_Call D 16 [.ref 13, .int p1] (W9 N C E F P Q) k n (am_oI rv, W9 N C E F P Q, k', n') := by
  unfold fF_notTooMuch at h
  obtain ⟨D, rfl⟩ : ∃ D', D = D' + 1 := ⟨D - 1, by omega⟩
  have hD : 2 ≤ D := by omega
  refine am_call_run (by decide) (by decide) rfl (Nat.le_of_ble_eq_true rfl) (by decide) (L := [(0, .ref 13), (1, .int p1)]) rfl ?_
  refine am_ev_st 3 (f' := (5, [(0, .ref 13), (1, .int p1)], [.int p1, .ref 1], (W9 N C E F P Q), k, n)) (g := True ∧ True ∧ True ∧ True) (by with_unfolding_all rfl) ⟨trivial, trivial, trivial, trivial⟩ ?_
  replace h := Option.bind_eq_some_iff.mp h
  obtain ⟨r1, hc1, h⟩ := h
  try dsimp only at h
  refine am_ev_call (.invokevirtual 114) 34 2 541 [.ref 1, .int p1] [] rfl rfl rfl rfl (ok_fN_isTooMuch hc1 D (by omega)) rfl ?_
  refine am_ev_st 1 (f' := am_br ((am_bz r1) = 0) 21 8 [(0, .ref 13), (1, .int p1)] [] (W9 N C E F P Q) k n) (g := True ∧ True) (by with_unfolding_all rfl) ⟨trivial, trivial⟩ ?_
  by_cases c2 : (am_bz r1) = 0
  · rw [if_pos c2] at h
    refine am_ev_pos c2 ?_
    refine am_ev_st 1 (f' := (22, [(0, .ref 13), (1, .int p1)], [.int p1], (W9 N C E F P Q), k, n)) (g := True ∧ True) (by with_unfolding_all rfl) ⟨trivial, trivial⟩ ?_
    cases h
    exact am_ev_ret 0 0 0 rfl .int rfl rfl rfl
  · rw [if_neg c2] at h
    refine am_ev_neg c2 ?_
    cases h
    exact am_ev_throw (.new 109) 5 2 529 rfl _ rfl rfl rfl rfl rfl rfl rfl
