def lp_fN_termLike_3 (fl : Nat) : Nat → cN → Int32 → Int32 → Int32 → Int32 → Option (Int32 × cN)
  | 0, _, _, _, _, _ => none
  | w + 1, N, v1, v2, v3, v4 =>
    match N with
    | (nK, nL, nR, nS, nD, cap, mt, le, en) =>
    if mt ≤ v4 then
    ((fN_addTerm N v1 v2 v3).bind fun z2 =>
    match z2 with
    | (r2, N_2) =>
    some (r2, N_2))
    else
    (fN_kindOf N v4).bind fun z3 =>
    match z3 with
    | (r3) =>
    if r3 ≠ v1 then
    (lp_fN_termLike_3 fl w N v1 v2 v3 (v4 + (1 : Int32)))
    else
    (fN_leftOf N v4).bind fun z5 =>
    match z5 with
    | (r5) =>
    if r5 ≠ v2 then
    (lp_fN_termLike_3 fl w N v1 v2 v3 (v4 + (1 : Int32)))
    else
    (fN_rightOf N v4).bind fun z7 =>
    match z7 with
    | (r7) =>
    if r7 ≠ v3 then
    (lp_fN_termLike_3 fl w N v1 v2 v3 (v4 + (1 : Int32)))
    else
    some (v4, N)
def fN_termLike (fl : Nat) (N : cN) (p1 p2 p3 : Int32) : Option (Int32 × cN) :=
  lp_fN_termLike_3 fl fl N p1 p2 p3 (0 : Int32)
set_option maxHeartbeats 4000000 in
set_option maxRecDepth 100000 in
theorem ok_lp_fN_termLike_3 {fl : Nat} : ∀ {w : Nat} {N : cN} {C : cC} {E : cE} {F : cF} {P : cP} {Q : cQ} {k n : Nat} {v1 : Int32} {v2 : Int32} {v3 : Int32} {v4 : Int32} {rv : Int32} {N' : cN} (h : lp_fN_termLike_3 fl w N v1 v2 v3 v4 = some (rv, N')) (D : Nat) (hD : 2 ≤ D), am_Ev D 36 0 (fun _ => 0) (3, [(0, .ref 1), (1, .int v1), (2, .int v2), (3, .int v3), (4, .int v4)], [], (W9 N C E F P Q), k, n) (.inl (some (.int rv)), W9 N' C E F P Q, k, n) := by
  intro w
  induction w with
  | zero => intros; rename_i h _ _; cases h
  | succ w ih0 =>
    intro N C E F P Q k n v1 v2 v3 v4 rv N' h D hD
    have ih := fun {N} {C} {E} {F} {P} {Q} {k} {n} {v1} {v2} {v3} {v4} {rv} {N'} h => @ih0 N C E F P Q k n v1 v2 v3 v4 rv N' h D hD
    unfold lp_fN_termLike_3 at h
    obtain ⟨nK, nL, nR, nS, nD, cap, mt, le, en⟩ := N
    try dsimp only at h
    refine am_ev_st 4 (f' := am_br (mt ≤ v4) 51 9 [(0, .ref 1), (1, .int v1), (2, .int v2), (3, .int v3), (4, .int v4)] [] (W9 (nK, nL, nR, nS, nD, cap, mt, le, en) C E F P Q) k n) (g := True ∧ True ∧ True ∧ True ∧ True) (by with_unfolding_all rfl) ⟨trivial, trivial, trivial, trivial, trivial⟩ ?_
    by_cases c1 : mt ≤ v4
    · rw [if_pos c1] at h
      refine am_ev_pos c1 ?_
      refine am_ev_st 4 (f' := (55, [(0, .ref 1), (1, .int v1), (2, .int v2), (3, .int v3), (4, .int v4)], [.int v3, .int v2, .int v1, .ref 1], (W9 (nK, nL, nR, nS, nD, cap, mt, le, en) C E F P Q), k, n)) (g := True ∧ True ∧ True ∧ True ∧ True) (by with_unfolding_all rfl) ⟨trivial, trivial, trivial, trivial, trivial⟩ ?_
      replace h := Option.bind_eq_some_iff.mp h
      obtain ⟨⟨r2, N_2⟩, hc2, h⟩ := h
      try dsimp only at h
      refine am_ev_call (.invokevirtual 63) 35 6 304 [.ref 1, .int v1, .int v2, .int v3] [] rfl rfl rfl rfl (ok_fN_addTerm hc2 D (by omega)) rfl ?_
      cases h
      exact am_ev_ret 0 0 0 rfl .int rfl rfl rfl
    · rw [if_neg c1] at h
      refine am_ev_neg c1 ?_
      refine am_ev_st 2 (f' := (15, [(0, .ref 1), (1, .int v1), (2, .int v2), (3, .int v3), (4, .int v4)], [.int v4, .ref 1], (W9 (nK, nL, nR, nS, nD, cap, mt, le, en) C E F P Q), k, n)) (g := True ∧ True ∧ True) (by with_unfolding_all rfl) ⟨trivial, trivial, trivial⟩ ?_
      replace h := Option.bind_eq_some_iff.mp h
      obtain ⟨r3, hc3, h⟩ := h
      try dsimp only at h
      refine am_ev_call (.invokevirtual 54) 28 2 301 [.ref 1, .int v4] [] rfl rfl rfl rfl (ok_fN_kindOf hc3 D (by omega)) rfl ?_
      refine am_ev_st 2 (f' := am_br (r3 ≠ v1) 45 19 [(0, .ref 1), (1, .int v1), (2, .int v2), (3, .int v3), (4, .int v4)] [] (W9 (nK, nL, nR, nS, nD, cap, mt, le, en) C E F P Q) k n) (g := True ∧ True ∧ True) (by with_unfolding_all rfl) ⟨trivial, trivial, trivial⟩ ?_
      by_cases c4 : r3 ≠ v1
      · rw [if_pos c4] at h
        refine am_ev_pos c4 ?_
        refine am_ev_st 2 (f' := (3, [(4, .int (v4 + (1 : Int32))), (0, .ref 1), (1, .int v1), (2, .int v2), (3, .int v3)], [], (W9 (nK, nL, nR, nS, nD, cap, mt, le, en) C E F P Q), k, n)) (g := True ∧ True ∧ True) (by with_unfolding_all rfl) ⟨trivial, trivial, trivial⟩ ?_
        refine am_ev_drop [1, 2, 3, 4, 0] rfl rfl ?_
        exact ih h
      · rw [if_neg c4] at h
        refine am_ev_neg c4 ?_
        refine am_ev_st 2 (f' := (25, [(0, .ref 1), (1, .int v1), (2, .int v2), (3, .int v3), (4, .int v4)], [.int v4, .ref 1], (W9 (nK, nL, nR, nS, nD, cap, mt, le, en) C E F P Q), k, n)) (g := True ∧ True ∧ True) (by with_unfolding_all rfl) ⟨trivial, trivial, trivial⟩ ?_
        replace h := Option.bind_eq_some_iff.mp h
        obtain ⟨r5, hc5, h⟩ := h
        try dsimp only at h
        refine am_ev_call (.invokevirtual 57) 29 2 302 [.ref 1, .int v4] [] rfl rfl rfl rfl (ok_fN_leftOf hc5 D (by omega)) rfl ?_
        refine am_ev_st 2 (f' := am_br (r5 ≠ v2) 45 29 [(0, .ref 1), (1, .int v1), (2, .int v2), (3, .int v3), (4, .int v4)] [] (W9 (nK, nL, nR, nS, nD, cap, mt, le, en) C E F P Q) k n) (g := True ∧ True ∧ True) (by with_unfolding_all rfl) ⟨trivial, trivial, trivial⟩ ?_
        by_cases c6 : r5 ≠ v2
        · rw [if_pos c6] at h
          refine am_ev_pos c6 ?_
          refine am_ev_st 2 (f' := (3, [(4, .int (v4 + (1 : Int32))), (0, .ref 1), (1, .int v1), (2, .int v2), (3, .int v3)], [], (W9 (nK, nL, nR, nS, nD, cap, mt, le, en) C E F P Q), k, n)) (g := True ∧ True ∧ True) (by with_unfolding_all rfl) ⟨trivial, trivial, trivial⟩ ?_
          refine am_ev_drop [1, 2, 3, 4, 0] rfl rfl ?_
          exact ih h
        · rw [if_neg c6] at h
          refine am_ev_neg c6 ?_
          refine am_ev_st 2 (f' := (35, [(0, .ref 1), (1, .int v1), (2, .int v2), (3, .int v3), (4, .int v4)], [.int v4, .ref 1], (W9 (nK, nL, nR, nS, nD, cap, mt, le, en) C E F P Q), k, n)) (g := True ∧ True ∧ True) (by with_unfolding_all rfl) ⟨trivial, trivial, trivial⟩ ?_
          replace h := Option.bind_eq_some_iff.mp h
          obtain ⟨r7, hc7, h⟩ := h
          try dsimp only at h
          refine am_ev_call (.invokevirtual 60) 30 2 303 [.ref 1, .int v4] [] rfl rfl rfl rfl (ok_fN_rightOf hc7 D (by omega)) rfl ?_
          refine am_ev_st 2 (f' := am_br (r7 ≠ v3) 45 39 [(0, .ref 1), (1, .int v1), (2, .int v2), (3, .int v3), (4, .int v4)] [] (W9 (nK, nL, nR, nS, nD, cap, mt, le, en) C E F P Q) k n) (g := True ∧ True ∧ True) (by with_unfolding_all rfl) ⟨trivial, trivial, trivial⟩ ?_
          by_cases c8 : r7 ≠ v3
          · rw [if_pos c8] at h
            refine am_ev_pos c8 ?_
            refine am_ev_st 2 (f' := (3, [(4, .int (v4 + (1 : Int32))), (0, .ref 1), (1, .int v1), (2, .int v2), (3, .int v3)], [], (W9 (nK, nL, nR, nS, nD, cap, mt, le, en) C E F P Q), k, n)) (g := True ∧ True ∧ True) (by with_unfolding_all rfl) ⟨trivial, trivial, trivial⟩ ?_
            refine am_ev_drop [1, 2, 3, 4, 0] rfl rfl ?_
            exact ih h
          · rw [if_neg c8] at h
            refine am_ev_neg c8 ?_
            refine am_ev_st 1 (f' := (44, [(0, .ref 1), (1, .int v1), (2, .int v2), (3, .int v3), (4, .int v4)], [.int v4], (W9 (nK, nL, nR, nS, nD, cap, mt, le, en) C E F P Q), k, n)) (g := True ∧ True) (by with_unfolding_all rfl) ⟨trivial, trivial⟩ ?_
            cases h
            exact am_ev_ret 0 0 0 rfl .int rfl rfl rfl
set_option maxHeartbeats 4000000 in
set_option maxRecDepth 100000 in
theorem ok_fN_termLike {fl : Nat} {N : cN} {C : cC} {E : cE} {F : cF} {P : cP} {Q : cQ} {k n : Nat} {p1 p2 p3 : Int32} {rv : Int32} {N' : cN} (h : fN_termLike fl N p1 p2 p3 = some (rv, N')) (D : Nat) (hD : 3 ≤ D) : am_Call D 36 [.ref 1, .int p1, .int p2, .int p3] (W9 N C E F P Q) k n (.inl (some (.int rv)), W9 N' C E F P Q, k, n) := by
  unfold fN_termLike at h
  obtain ⟨D, rfl⟩ : ∃ D', D = D' + 1 := ⟨D - 1, by omega⟩
  have hD : 2 ≤ D := by omega
  refine am_call_run (by decide) (by decide) rfl (Nat.le_of_ble_eq_true rfl) (by decide) (L := [(0, .ref 1), (1, .int p1), (2, .int p2), (3, .int p3)]) rfl ?_
  refine am_ev_st 2 (f' := (3, [(4, .int (0 : Int32)), (0, .ref 1), (1, .int p1), (2, .int p2), (3, .int p3)], [], (W9 N C E F P Q), k, n)) (g := True ∧ True ∧ True) (by with_unfolding_all rfl) ⟨trivial, trivial, trivial⟩ ?_
  refine am_ev_drop [1, 2, 3, 4, 0] rfl rfl ?_
  exact ok_lp_fN_termLike_3 h D hD
def fN_add (N : cN) (k n : Nat) (p1 p2 p3 : Int32) : Option (Int32 × cN × (Nat × Nat)) :=
  match N with
  | (nK, nL, nR, nS, nD, cap, mt, le, en) =>
  if en < (Int32.ofNat cap) then
  ((fN_fill N en p1 p2 p3).bind fun z2 =>
  match z2 with
  | (N_2) =>
  match N_2 with
  | (nK_2, nL_2, nR_2, nS_2, nD_2, cap_2, mt_2, le_2, en_2) =>
  some (((en_2 + (1 : Int32)) - (1 : Int32)), (nK_2, nL_2, nR_2, nS_2, nD_2, cap_2, mt_2, le_2, (en_2 + (1 : Int32))), (k, n)))
  else
  (fN_grow N k n).bind fun z3 =>
  match z3 with
  | (N_3, (k_3, n_3)) =>
  match N_3 with
  | (nK_3, nL_3, nR_3, nS_3, nD_3, cap_3, mt_3, le_3, en_3) =>
  (fN_fill N_3 en_3 p1 p2 p3).bind fun z4 =>
  match z4 with
  | (N_4) =>
  match N_4 with
  | (nK_4, nL_4, nR_4, nS_4, nD_4, cap_4, mt_4, le_4, en_4) =>
  some (((en_4 + (1 : Int32)) - (1 : Int32)), (nK_4, nL_4, nR_4, nS_4, nD_4, cap_4, mt_4, le_4, (en_4 + (1 : Int32))), (k_3, n_3))
set_option maxHeartbeats 4000000 in
set_option maxRecDepth 100000 in
theorem ok_fN_add  {N : cN} {C : cC} {E : cE} {F : cF} {P : cP} {Q : cQ} {k n : Nat} {p1 p2 p3 : Int32} {rv : Int32} {N' : cN} {k' n' : Nat} (h : fN_add N k n p1 p2 p3 = some (rv, N', (k', n'))) (D : Nat) (hD : 2 ≤ D) : am_Call D 38 [.ref 1, .int p1, .int p2, .int p3] (W9 N C E F P Q) k n (.inl (some (.int rv)), W9 N' C E F P Q, k', n') := by
  unfold fN_add at h
  obtain ⟨D, rfl⟩ : ∃ D', D = D' + 1 := ⟨D - 1, by omega⟩
  have hD : 1 ≤ D := by omega
  refine am_call_run (by decide) (by decide) rfl (Nat.le_of_ble_eq_true rfl) (by decide) (L := [(0, .ref 1), (1, .int p1), (2, .int p2), (3, .int p3)]) rfl ?_
  obtain ⟨nK, nL, nR, nS, nD, cap, mt, le, en⟩ := N
  try dsimp only at h
  refine am_ev_st 6 (f' := am_br (en < (Int32.ofNat cap)) 16 9 [(0, .ref 1), (1, .int p1), (2, .int p2), (3, .int p3)] [] (W9 (nK, nL, nR, nS, nD, cap, mt, le, en) C E F P Q) k n) (g := True ∧ True ∧ True ∧ True ∧ True ∧ True ∧ True) (by with_unfolding_all rfl) ⟨trivial, trivial, trivial, trivial, trivial, trivial, trivial⟩ ?_
  by_cases c1 : en < (Int32.ofNat cap)
  · rw [if_pos c1] at h
    refine am_ev_pos c1 ?_
    refine am_ev_st 6 (f' := (24, [(0, .ref 1), (1, .int p1), (2, .int p2), (3, .int p3)], [.int p3, .int p2, .int p1, .int en, .ref 1], (W9 (nK, nL, nR, nS, nD, cap, mt, le, en) C E F P Q), k, n)) (g := True ∧ True ∧ True ∧ True ∧ True ∧ True ∧ True) (by with_unfolding_all rfl) ⟨trivial, trivial, trivial, trivial, trivial, trivial, trivial⟩ ?_
    replace h := Option.bind_eq_some_iff.mp h
    obtain ⟨N_2, hc2, h⟩ := h
    try dsimp only at h
    refine am_ev_call (.invokevirtual 50) 39 8 215 [.ref 1, .int en, .int p1, .int p2, .int p3] [] rfl rfl rfl rfl (ok_fN_fill hc2 D (by omega)) rfl ?_
    obtain ⟨nK_2, nL_2, nR_2, nS_2, nD_2, cap_2, mt_2, le_2, en_2⟩ := N_2
    try dsimp only at h
    refine am_ev_st 10 (f' := (43, [(0, .ref 1), (1, .int p1), (2, .int p2), (3, .int p3)], [.int ((en_2 + (1 : Int32)) - (1 : Int32))], (W9 (nK_2, nL_2, nR_2, nS_2, nD_2, cap_2, mt_2, le_2, (en_2 + (1 : Int32))) C E F P Q), k, n)) (g := True ∧ True ∧ True ∧ True ∧ True ∧ True ∧ True ∧ True ∧ True ∧ True ∧ True) (by with_unfolding_all rfl) ⟨trivial, trivial, trivial, trivial, trivial, trivial, trivial, trivial, trivial, trivial, trivial⟩ ?_
    cases h
    exact am_ev_ret 0 0 0 rfl .int rfl rfl rfl
  · rw [if_neg c1] at h
    refine am_ev_neg c1 ?_
    refine am_ev_st 1 (f' := (13, [(0, .ref 1), (1, .int p1), (2, .int p2), (3, .int p3)], [.ref 1], (W9 (nK, nL, nR, nS, nD, cap, mt, le, en) C E F P Q), k, n)) (g := True ∧ True) (by with_unfolding_all rfl) ⟨trivial, trivial⟩ ?_
    replace h := Option.bind_eq_some_iff.mp h
    obtain ⟨⟨N_3, ⟨k_3, n_3⟩⟩, hc3, h⟩ := h
    try dsimp only at h
    refine am_ev_call (.invokevirtual 67) 40 0 309 [.ref 1] [] rfl rfl rfl rfl (ok_fN_grow hc3 D (by omega)) rfl ?_
    obtain ⟨nK_3, nL_3, nR_3, nS_3, nD_3, cap_3, mt_3, le_3, en_3⟩ := N_3
    try dsimp only at h
    refine am_ev_st 6 (f' := (24, [(0, .ref 1), (1, .int p1), (2, .int p2), (3, .int p3)], [.int p3, .int p2, .int p1, .int en_3, .ref 1], (W9 (nK_3, nL_3, nR_3, nS_3, nD_3, cap_3, mt_3, le_3, en_3) C E F P Q), k_3, n_3)) (g := True ∧ True ∧ True ∧ True ∧ True ∧ True ∧ True) (by with_unfolding_all rfl) ⟨trivial, trivial, trivial, trivial, trivial, trivial, trivial⟩ ?_
    replace h := Option.bind_eq_some_iff.mp h
    obtain ⟨N_4, hc4, h⟩ := h
    try dsimp only at h
    refine am_ev_call (.invokevirtual 50) 39 8 215 [.ref 1, .int en_3, .int p1, .int p2, .int p3] [] rfl rfl rfl rfl (ok_fN_fill hc4 D (by omega)) rfl ?_
    obtain ⟨nK_4, nL_4, nR_4, nS_4, nD_4, cap_4, mt_4, le_4, en_4⟩ := N_4
    try dsimp only at h
    refine am_ev_st 10 (f' := (43, [(0, .ref 1), (1, .int p1), (2, .int p2), (3, .int p3)], [.int ((en_4 + (1 : Int32)) - (1 : Int32))], (W9 (nK_4, nL_4, nR_4, nS_4, nD_4, cap_4, mt_4, le_4, (en_4 + (1 : Int32))) C E F P Q), k_3, n_3)) (g := True ∧ True ∧ True ∧ True ∧ True ∧ True ∧ True ∧ True ∧ True ∧ True ∧ True) (by with_unfolding_all rfl) ⟨trivial, trivial, trivial, trivial, trivial, trivial, trivial, trivial, trivial, trivial, trivial⟩ ?_
    cases h
    exact am_ev_ret 0 0 0 rfl .int rfl rfl rfl
def fM_readNode_P (fl : Nat) : Nat → cN → cP → Nat → Nat → Int32 → Option (Int32 × cN × cP × (Nat × Nat))
  | 0, _, _, _, _, _ => none
  | d + 1, N, P, k, n, p2 =>
    match P with
    | (pr, pl, px) =>
    (fM_at_P P px).bind fun z1 =>
    match z1 with
    | (r1) =>
    if r1 ≠ (-1 : Int32) then
    ((fJ_hasParts (r1 - r1 / (10 : Int32) * (10 : Int32))).bind fun z3 =>
    match z3 with
    | (r3) =>
    if (am_bz r3) = 0 then
    (if p2 = 0 then
    ((fN_add N k n (r1 - r1 / (10 : Int32) * (10 : Int32)) (r1 / (10 : Int32)) (-1 : Int32)).bind fun z6 =>
    match z6 with
    | (r6, N_6, (k_6, n_6)) =>
    some (r6, N_6, (pr, pl, (px + (1 : Int32))), (k_6, n_6)))
    else
    (fN_termLike fl N (r1 - r1 / (10 : Int32) * (10 : Int32)) (r1 / (10 : Int32)) (-1 : Int32)).bind fun z7 =>
    match z7 with
    | (r7, N_7) =>
    some (r7, N_7, (pr, pl, (px + (1 : Int32))), (k, n)))
    else
    (fM_readNode_P fl d N (pr, pl, (px + (1 : Int32))) k n p2).bind fun z8 =>
    match z8 with
    | (r8, N_8, P_8, (k_8, n_8)) =>
    if r8 ≠ (-1 : Int32) then
    ((fM_readNode_P fl d N_8 P_8 k_8 n_8 p2).bind fun z10 =>
    match z10 with
    | (r10, N_10, P_10, (k_10, n_10)) =>
    if r10 ≠ (-1 : Int32) then
    (if p2 = 0 then
    ((fN_add N_10 k_10 n_10 (r1 - r1 / (10 : Int32) * (10 : Int32)) r8 r10).bind fun z13 =>
    match z13 with
    | (r13, N_13, (k_13, n_13)) =>
    some (r13, N_13, P_10, (k_13, n_13)))
    else
    (fN_termLike fl N_10 (r1 - r1 / (10 : Int32) * (10 : Int32)) r8 r10).bind fun z14 =>
    match z14 with
    | (r14, N_14) =>
    some (r14, N_14, P_10, (k_10, n_10)))
    else
    some ((-1 : Int32), N_10, P_10, (k_10, n_10)))
    else
    some ((-1 : Int32), N_8, P_8, (k_8, n_8)))
    else
    some ((-1 : Int32), N, P, (k, n))
set_option maxHeartbeats 4000000 in
set_option maxRecDepth 100000 in
theorem ok_fM_readNode_P {fl : Nat} : ∀ {d : Nat} {N : cN} {C : cC} {E : cE} {F : cF} {P : cP} {Q : cQ} {k n : Nat} {p2 : Int32} {rv : Int32} {N' : cN} {P' : cP} {k' n' : Nat} (h : fM_readNode_P fl d N P k n p2 = some (rv, N', P', (k', n'))) (D : Nat) (hD : d + 3 ≤ D), am_Call D 24 [.ref 15, .ref 1, .int p2] (W9 N C E F P Q) k n (.inl (some (.int rv)), W9 N' C E F P' Q, k', n') := by
  intro d
  induction d with
  | zero => intros; rename_i h _ _; cases h
  | succ d ih0 =>
    intro N C E F P Q k n p2 rv N' P' k' n' h D hD
    have ih := fun {N} {C} {E} {F} {P} {Q} {k} {n} {p2} {rv} {N'} {P'} {k'} {n'} h D hD => @ih0 N C E F P Q k n p2 rv N' P' k' n' h D hD
    unfold fM_readNode_P at h
    obtain ⟨D, rfl⟩ : ∃ D', D = D' + 1 := ⟨D - 1, by omega⟩
    refine am_call_run (by decide) (by decide) rfl (Nat.le_of_ble_eq_true rfl) (by decide) (L := [(0, .ref 15), (1, .ref 1), (2, .int p2)]) rfl ?_
    obtain ⟨pr, pl, px⟩ := P
    try dsimp only at h
    refine am_ev_st 3 (f' := (5, [(0, .ref 15), (1, .ref 1), (2, .int p2)], [.int px, .ref 15], (W9 N C E F (pr, pl, px) Q), k, n)) (g := True ∧ True ∧ True ∧ True) (by with_unfolding_all rfl) ⟨trivial, trivial, trivial, trivial⟩ ?_
    replace h := Option.bind_eq_some_iff.mp h
    obtain ⟨r1, hc1, h⟩ := h
    try dsimp only at h
    refine am_ev_call (.invokevirtual 22) 19 2 285 [.ref 15, .int px] [] rfl rfl rfl rfl (ok_fM_at_P hc1 D (by omega)) rfl ?_
    refine am_ev_st 4 (f' := am_br (r1 ≠ (-1 : Int32)) 16 11 [(3, .int r1), (0, .ref 15), (1, .ref 1), (2, .int p2)] [] (W9 N C E F (pr, pl, px) Q) k n) (g := True ∧ True ∧ True ∧ True ∧ True) (by with_unfolding_all rfl) ⟨trivial, trivial, trivial, trivial, trivial⟩ ?_
    by_cases c2 : r1 ≠ (-1 : Int32)
    · rw [if_pos c2] at h
      refine am_ev_pos c2 ?_
      refine am_ev_st 17 (f' := (43, [(6, .int (-1 : Int32)), (5, .int (r1 / (10 : Int32))), (4, .int (r1 - r1 / (10 : Int32) * (10 : Int32))), (3, .int r1), (0, .ref 15), (1, .ref 1), (2, .int p2)], [.int (r1 - r1 / (10 : Int32) * (10 : Int32))], (W9 N C E F (pr, pl, (px + (1 : Int32))) Q), k, n)) (g := True ∧ True ∧ True ∧ True ∧ True ∧ True ∧ True ∧ True ∧ ¬ ((10 : Int32) = 0) ∧ True ∧ True ∧ True ∧ ¬ ((10 : Int32) = 0) ∧ True ∧ True ∧ True ∧ True ∧ True) (by with_unfolding_all rfl) ⟨trivial, trivial, trivial, trivial, trivial, trivial, trivial, trivial, by decide, trivial, trivial, trivial, by decide, trivial, trivial, trivial, trivial, trivial⟩ ?_
      replace h := Option.bind_eq_some_iff.mp h
      obtain ⟨r3, hc3, h⟩ := h
      try dsimp only at h
      refine am_ev_call (.invokestatic 35) 69 3 264 [.int (r1 - r1 / (10 : Int32) * (10 : Int32))] [] rfl rfl rfl rfl (ok_fJ_hasParts hc3 D (by omega)) rfl ?_
      refine am_ev_st 1 (f' := am_br ((am_bz r3) = 0) 83 46 [(6, .int (-1 : Int32)), (5, .int (r1 / (10 : Int32))), (4, .int (r1 - r1 / (10 : Int32) * (10 : Int32))), (3, .int r1), (0, .ref 15), (1, .ref 1), (2, .int p2)] [] (W9 N C E F (pr, pl, (px + (1 : Int32))) Q) k n) (g := True ∧ True) (by with_unfolding_all rfl) ⟨trivial, trivial⟩ ?_
      by_cases c4 : (am_bz r3) = 0
      · rw [if_pos c4] at h
        refine am_ev_pos c4 ?_
        refine am_ev_st 2 (f' := am_br (p2 = 0) 100 84 [(6, .int (-1 : Int32)), (5, .int (r1 / (10 : Int32))), (4, .int (r1 - r1 / (10 : Int32) * (10 : Int32))), (3, .int r1), (0, .ref 15), (1, .ref 1), (2, .int p2)] [] (W9 N C E F (pr, pl, (px + (1 : Int32))) Q) k n) (g := True ∧ True ∧ True) (by with_unfolding_all rfl) ⟨trivial, trivial, trivial⟩ ?_
        by_cases c5 : p2 = 0
        · rw [if_pos c5] at h
          refine am_ev_pos c5 ?_
          refine am_ev_st 4 (f' := (107, [(6, .int (-1 : Int32)), (5, .int (r1 / (10 : Int32))), (4, .int (r1 - r1 / (10 : Int32) * (10 : Int32))), (3, .int r1), (0, .ref 15), (1, .ref 1), (2, .int p2)], [.int (-1 : Int32), .int (r1 / (10 : Int32)), .int (r1 - r1 / (10 : Int32) * (10 : Int32)), .ref 1], (W9 N C E F (pr, pl, (px + (1 : Int32))) Q), k, n)) (g := True ∧ True ∧ True ∧ True ∧ True) (by with_unfolding_all rfl) ⟨trivial, trivial, trivial, trivial, trivial⟩ ?_
          replace h := Option.bind_eq_some_iff.mp h
          obtain ⟨⟨r6, N_6, ⟨k_6, n_6⟩⟩, hc6, h⟩ := h
          try dsimp only at h
          refine am_ev_call (.invokevirtual 53) 38 6 305 [.ref 1, .int (r1 - r1 / (10 : Int32) * (10 : Int32)), .int (r1 / (10 : Int32)), .int (-1 : Int32)] [] rfl rfl rfl rfl (ok_fN_add hc6 D (by omega)) rfl ?_
          cases h
          exact am_ev_ret 0 0 0 rfl .int rfl rfl rfl
        · rw [if_neg c5] at h
          refine am_ev_neg c5 ?_
          refine am_ev_st 4 (f' := (94, [(6, .int (-1 : Int32)), (5, .int (r1 / (10 : Int32))), (4, .int (r1 - r1 / (10 : Int32) * (10 : Int32))), (3, .int r1), (0, .ref 15), (1, .ref 1), (2, .int p2)], [.int (-1 : Int32), .int (r1 / (10 : Int32)), .int (r1 - r1 / (10 : Int32) * (10 : Int32)), .ref 1], (W9 N C E F (pr, pl, (px + (1 : Int32))) Q), k, n)) (g := True ∧ True ∧ True ∧ True ∧ True) (by with_unfolding_all rfl) ⟨trivial, trivial, trivial, trivial, trivial⟩ ?_
          replace h := Option.bind_eq_some_iff.mp h
          obtain ⟨⟨r7, N_7⟩, hc7, h⟩ := h
          try dsimp only at h
          refine am_ev_call (.invokevirtual 49) 36 6 297 [.ref 1, .int (r1 - r1 / (10 : Int32) * (10 : Int32)), .int (r1 / (10 : Int32)), .int (-1 : Int32)] [] rfl rfl rfl rfl (ok_fN_termLike hc7 D (by omega)) rfl ?_
          refine am_ev_st 1 (f' := (110, [(6, .int (-1 : Int32)), (5, .int (r1 / (10 : Int32))), (4, .int (r1 - r1 / (10 : Int32) * (10 : Int32))), (3, .int r1), (0, .ref 15), (1, .ref 1), (2, .int p2)], [.int r7], (W9 N_7 C E F (pr, pl, (px + (1 : Int32))) Q), k, n)) (g := True ∧ True) (by with_unfolding_all rfl) ⟨trivial, trivial⟩ ?_
          cases h
          exact am_ev_ret 0 0 0 rfl .int rfl rfl rfl
      · rw [if_neg c4] at h
        refine am_ev_neg c4 ?_
        refine am_ev_st 3 (f' := (52, [(6, .int (-1 : Int32)), (5, .int (r1 / (10 : Int32))), (4, .int (r1 - r1 / (10 : Int32) * (10 : Int32))), (3, .int r1), (0, .ref 15), (1, .ref 1), (2, .int p2)], [.int p2, .ref 1, .ref 15], (W9 N C E F (pr, pl, (px + (1 : Int32))) Q), k, n)) (g := True ∧ True ∧ True ∧ True) (by with_unfolding_all rfl) ⟨trivial, trivial, trivial, trivial⟩ ?_
        replace h := Option.bind_eq_some_iff.mp h
        obtain ⟨⟨r8, N_8, P_8, ⟨k_8, n_8⟩⟩, hc8, h⟩ := h
        try dsimp only at h
        refine am_ev_call (.invokevirtual 45) 24 4 293 [.ref 15, .ref 1, .int p2] [] rfl rfl rfl rfl (ih hc8 D (by omega)) rfl ?_
        refine am_ev_st 4 (f' := am_br (r8 ≠ (-1 : Int32)) 67 60 [(5, .int r8), (6, .int (-1 : Int32)), (4, .int (r1 - r1 / (10 : Int32) * (10 : Int32))), (3, .int r1), (0, .ref 15), (1, .ref 1), (2, .int p2)] [] (W9 N_8 C E F P_8 Q) k_8 n_8) (g := True ∧ True ∧ True ∧ True ∧ True) (by with_unfolding_all rfl) ⟨trivial, trivial, trivial, trivial, trivial⟩ ?_
        by_cases c9 : r8 ≠ (-1 : Int32)
        · rw [if_pos c9] at h
          refine am_ev_pos c9 ?_
          refine am_ev_st 3 (f' := (70, [(5, .int r8), (6, .int (-1 : Int32)), (4, .int (r1 - r1 / (10 : Int32) * (10 : Int32))), (3, .int r1), (0, .ref 15), (1, .ref 1), (2, .int p2)], [.int p2, .ref 1, .ref 15], (W9 N_8 C E F P_8 Q), k_8, n_8)) (g := True ∧ True ∧ True ∧ True) (by with_unfolding_all rfl) ⟨trivial, trivial, trivial, trivial⟩ ?_
          replace h := Option.bind_eq_some_iff.mp h
          obtain ⟨⟨r10, N_10, P_10, ⟨k_10, n_10⟩⟩, hc10, h⟩ := h
          try dsimp only at h
          refine am_ev_call (.invokevirtual 45) 24 4 293 [.ref 15, .ref 1, .int p2] [] rfl rfl rfl rfl (ih hc10 D (by omega)) rfl ?_
          refine am_ev_st 4 (f' := am_br (r10 ≠ (-1 : Int32)) 83 78 [(6, .int r10), (5, .int r8), (4, .int (r1 - r1 / (10 : Int32) * (10 : Int32))), (3, .int r1), (0, .ref 15), (1, .ref 1), (2, .int p2)] [] (W9 N_10 C E F P_10 Q) k_10 n_10) (g := True ∧ True ∧ True ∧ True ∧ True) (by with_unfolding_all rfl) ⟨trivial, trivial, trivial, trivial, trivial⟩ ?_
          by_cases c11 : r10 ≠ (-1 : Int32)
          · rw [if_pos c11] at h
            refine am_ev_pos c11 ?_
            refine am_ev_st 2 (f' := am_br (p2 = 0) 100 84 [(6, .int r10), (5, .int r8), (4, .int (r1 - r1 / (10 : Int32) * (10 : Int32))), (3, .int r1), (0, .ref 15), (1, .ref 1), (2, .int p2)] [] (W9 N_10 C E F P_10 Q) k_10 n_10) (g := True ∧ True ∧ True) (by with_unfolding_all rfl) ⟨trivial, trivial, trivial⟩ ?_
            by_cases c12 : p2 = 0
            · rw [if_pos c12] at h
              refine am_ev_pos c12 ?_
              refine am_ev_st 4 (f' := (107, [(6, .int r10), (5, .int r8), (4, .int (r1 - r1 / (10 : Int32) * (10 : Int32))), (3, .int r1), (0, .ref 15), (1, .ref 1), (2, .int p2)], [.int r10, .int r8, .int (r1 - r1 / (10 : Int32) * (10 : Int32)), .ref 1], (W9 N_10 C E F P_10 Q), k_10, n_10)) (g := True ∧ True ∧ True ∧ True ∧ True) (by with_unfolding_all rfl) ⟨trivial, trivial, trivial, trivial, trivial⟩ ?_
              replace h := Option.bind_eq_some_iff.mp h
              obtain ⟨⟨r13, N_13, ⟨k_13, n_13⟩⟩, hc13, h⟩ := h
              try dsimp only at h
              refine am_ev_call (.invokevirtual 53) 38 6 305 [.ref 1, .int (r1 - r1 / (10 : Int32) * (10 : Int32)), .int r8, .int r10] [] rfl rfl rfl rfl (ok_fN_add hc13 D (by omega)) rfl ?_
              cases h
              exact am_ev_ret 0 0 0 rfl .int rfl rfl rfl
            · rw [if_neg c12] at h
              refine am_ev_neg c12 ?_
              refine am_ev_st 4 (f' := (94, [(6, .int r10), (5, .int r8), (4, .int (r1 - r1 / (10 : Int32) * (10 : Int32))), (3, .int r1), (0, .ref 15), (1, .ref 1), (2, .int p2)], [.int r10, .int r8, .int (r1 - r1 / (10 : Int32) * (10 : Int32)), .ref 1], (W9 N_10 C E F P_10 Q), k_10, n_10)) (g := True ∧ True ∧ True ∧ True ∧ True) (by with_unfolding_all rfl) ⟨trivial, trivial, trivial, trivial, trivial⟩ ?_
              replace h := Option.bind_eq_some_iff.mp h
              obtain ⟨⟨r14, N_14⟩, hc14, h⟩ := h
              try dsimp only at h
              refine am_ev_call (.invokevirtual 49) 36 6 297 [.ref 1, .int (r1 - r1 / (10 : Int32) * (10 : Int32)), .int r8, .int r10] [] rfl rfl rfl rfl (ok_fN_termLike hc14 D (by omega)) rfl ?_
              refine am_ev_st 1 (f' := (110, [(6, .int r10), (5, .int r8), (4, .int (r1 - r1 / (10 : Int32) * (10 : Int32))), (3, .int r1), (0, .ref 15), (1, .ref 1), (2, .int p2)], [.int r14], (W9 N_14 C E F P_10 Q), k_10, n_10)) (g := True ∧ True) (by with_unfolding_all rfl) ⟨trivial, trivial⟩ ?_
              cases h
              exact am_ev_ret 0 0 0 rfl .int rfl rfl rfl
          · rw [if_neg c11] at h
            refine am_ev_neg c11 ?_
            refine am_ev_st 1 (f' := (82, [(6, .int r10), (5, .int r8), (4, .int (r1 - r1 / (10 : Int32) * (10 : Int32))), (3, .int r1), (0, .ref 15), (1, .ref 1), (2, .int p2)], [.int (-1 : Int32)], (W9 N_10 C E F P_10 Q), k_10, n_10)) (g := True ∧ True) (by with_unfolding_all rfl) ⟨trivial, trivial⟩ ?_
            cases h
            exact am_ev_ret 0 0 0 rfl .int rfl rfl rfl
        · rw [if_neg c9] at h
          refine am_ev_neg c9 ?_
          refine am_ev_st 6 (f' := am_br ((-1 : Int32) ≠ (-1 : Int32)) 83 78 [(6, .int (-1 : Int32)), (5, .int r8), (4, .int (r1 - r1 / (10 : Int32) * (10 : Int32))), (3, .int r1), (0, .ref 15), (1, .ref 1), (2, .int p2)] [] (W9 N_8 C E F P_8 Q) k_8 n_8) (g := True ∧ True ∧ True ∧ True ∧ True ∧ True ∧ True) (by with_unfolding_all rfl) ⟨trivial, trivial, trivial, trivial, trivial, trivial, trivial⟩ ?_
          refine am_ev_neg (by decide) ?_
          refine am_ev_st 1 (f' := (82, [(6, .int (-1 : Int32)), (5, .int r8), (4, .int (r1 - r1 / (10 : Int32) * (10 : Int32))), (3, .int r1), (0, .ref 15), (1, .ref 1), (2, .int p2)], [.int (-1 : Int32)], (W9 N_8 C E F P_8 Q), k_8, n_8)) (g := True ∧ True) (by with_unfolding_all rfl) ⟨trivial, trivial⟩ ?_
          cases h
          exact am_ev_ret 0 0 0 rfl .int rfl rfl rfl
    · rw [if_neg c2] at h
      refine am_ev_neg c2 ?_
      refine am_ev_st 1 (f' := (15, [(3, .int r1), (0, .ref 15), (1, .ref 1), (2, .int p2)], [.int (-1 : Int32)], (W9 N C E F (pr, pl, px) Q), k, n)) (g := True ∧ True) (by with_unfolding_all rfl) ⟨trivial, trivial⟩ ?_
      cases h
      exact am_ev_ret 0 0 0 rfl .int rfl rfl rfl
def fM_read_P (fl : Nat) (d : Nat) (N : cN) (P : cP) (k n : Nat) (p2 : Int32) : Option (Int32 × cN × cP × (Nat × Nat)) :=
  match P with
  | (pr, pl, px) =>
  (fM_readNode_P fl d N (pr, pl, (0 : Int32)) k n p2).bind fun z1 =>
  match z1 with
  | (r1, N_1, P_1, (k_1, n_1)) =>
  some (r1, N_1, P_1, (k_1, n_1))
set_option maxHeartbeats 4000000 in
set_option maxRecDepth 100000 in
theorem ok_fM_read_P {fl d : Nat} {N : cN} {C : cC} {E : cE} {F : cF} {P : cP} {Q : cQ} {k n : Nat} {p2 : Int32} {rv : Int32} {N' : cN} {P' : cP} {k' n' : Nat} (h : fM_read_P fl d N P k n p2 = some (rv, N', P', (k', n'))) (D : Nat) (hD : d + 4 ≤ D) : am_Call D 23 [.ref 15, .ref 1, .int p2] (W9 N C E F P Q) k n (.inl (some (.int rv)), W9 N' C E F P' Q, k', n') := by
  unfold fM_read_P at h
  obtain ⟨D, rfl⟩ : ∃ D', D = D' + 1 := ⟨D - 1, by omega⟩
  have hD : d + 3 ≤ D := by omega
  refine am_call_run (by decide) (by decide) rfl (Nat.le_of_ble_eq_true rfl) (by decide) (L := [(0, .ref 15), (1, .ref 1), (2, .int p2)]) rfl ?_
  obtain ⟨pr, pl, px⟩ := P
  try dsimp only at h
  refine am_ev_st 6 (f' := (8, [(0, .ref 15), (1, .ref 1), (2, .int p2)], [.int p2, .ref 1, .ref 15], (W9 N C E F (pr, pl, (0 : Int32)) Q), k, n)) (g := True ∧ True ∧ True ∧ True ∧ True ∧ True ∧ True) (by with_unfolding_all rfl) ⟨trivial, trivial, trivial, trivial, trivial, trivial, trivial⟩ ?_
  replace h := Option.bind_eq_some_iff.mp h
  obtain ⟨⟨r1, N_1, P_1, ⟨k_1, n_1⟩⟩, hc1, h⟩ := h
  try dsimp only at h
  refine am_ev_call (.invokevirtual 45) 24 4 293 [.ref 15, .ref 1, .int p2] [] rfl rfl rfl rfl (ok_fM_readNode_P hc1 D (by omega)) rfl ?_
  cases h
  exact am_ev_ret 0 0 0 rfl .int rfl rfl rfl
def fN_cutTerms (N : cN) (p1 : Int32) : Option (cN) :=
  match N with
  | (nK, nL, nR, nS, nD, cap, mt, le, en) =>
  some (nK, nL, nR, nS, nD, cap, p1, le, en)
set_option maxHeartbeats 4000000 in
set_option maxRecDepth 100000 in
theorem ok_fN_cutTerms  {N : cN} {C : cC} {E : cE} {F : cF} {P : cP} {Q : cQ} {k n : Nat} {p1 : Int32} {N' : cN} (h : fN_cutTerms N p1 = some N') (D : Nat) (hD : 1 ≤ D) : am_Call D 37 [.ref 1, .int p1] (W9 N C E F P Q) k n (.inl none, W9 N' C E F P Q, k, n) := by
  unfold fN_cutTerms at h
  obtain ⟨D, rfl⟩ : ∃ D', D = D' + 1 := ⟨D - 1, by omega⟩
  have hD : 0 ≤ D := by omega
  refine am_call_run (by decide) (by decide) rfl (Nat.le_of_ble_eq_true rfl) (by decide) (L := [(0, .ref 1), (1, .int p1)]) rfl ?_
  obtain ⟨nK, nL, nR, nS, nD, cap, mt, le, en⟩ := N
  try dsimp only at h
  refine am_ev_st 3 (f' := (5, [(0, .ref 1), (1, .int p1)], [], (W9 (nK, nL, nR, nS, nD, cap, p1, le, en) C E F P Q), k, n)) (g := True ∧ True ∧ True ∧ True) (by with_unfolding_all rfl) ⟨trivial, trivial, trivial, trivial⟩ ?_
  cases h
  exact am_ev_vret 0 0 0 rfl rfl rfl
def fJ_keep (fl : Nat) (d : Nat) (N : cN) (P : cP) (k n : Nat) : Option (Int32 × cN × cP × (Nat × Nat)) :=
  (fM_isEmpty_P P).bind fun z1 =>
  match z1 with
  | (r1) =>
  if (am_bz r1) ≠ 0 then
  (some ((-1 : Int32), N, P, (k, n)))
  else
  (fM_hasTooGreat_P fl P (1 : Int32)).bind fun z3 =>
  match z3 with
  | (r3) =>
  if (am_bz r3) ≠ 0 then
  (some ((-1 : Int32), N, P, (k, n)))
  else
  (fM_hasTooGreat_P fl P (0 : Int32)).bind fun z5 =>
  match z5 with
  | (r5) =>
  if (am_bz r5) = 0 then
  ((fN_termCount N).bind fun z7 =>
  match z7 with
  | (r7) =>
  (fM_read_P fl d N P k n (1 : Int32)).bind fun z8 =>
  match z8 with
  | (r8, N_8, P_8, (k_8, n_8)) =>
  if r8 ≠ (-1 : Int32) then
  (some (r8, N_8, P_8, (k_8, n_8)))
  else
  (fN_cutTerms N_8 r7).bind fun z10 =>
  match z10 with
  | (N_10) =>
  some (r8, N_10, P_8, (k_8, n_8)))
  else
  some ((-1 : Int32), N, P, (k, n))
set_option maxHeartbeats 4000000 in
set_option maxRecDepth 100000 in
theorem ok_fJ_keep {fl d : Nat} {N : cN} {C : cC} {E : cE} {F : cF} {P : cP} {Q : cQ} {k n : Nat} {rv : Int32} {N' : cN} {P' : cP} {k' n' : Nat} (h : fJ_keep fl d N P k n = some (rv, N', P', (k', n'))) (D : Nat) (hD : d + 5 ≤ D) : am_Call D 67 [.ref 0] (W9 N C E F P Q) k n (.inl (some (.int rv)), W9 N' C E F P' Q, k', n') := by
  unfold fJ_keep at h
  obtain ⟨D, rfl⟩ : ∃ D', D = D' + 1 := ⟨D - 1, by omega⟩
  have hD : d + 4 ≤ D := by omega
  refine am_call_run (by decide) (by decide) rfl (Nat.le_of_ble_eq_true rfl) (by decide) (L := [(0, .ref 0)]) rfl ?_
  refine am_ev_st 2 (f' := (4, [(0, .ref 0)], [.ref 15], (W9 N C E F P Q), k, n)) (g := True ∧ True ∧ True) (by with_unfolding_all rfl) ⟨trivial, trivial, trivial⟩ ?_
  replace h := Option.bind_eq_some_iff.mp h
  obtain ⟨r1, hc1, h⟩ := h
  try dsimp only at h
  refine am_ev_call (.invokevirtual 140) 18 0 277 [.ref 15] [] rfl rfl rfl rfl (ok_fM_isEmpty_P hc1 D (by omega)) rfl ?_
  refine am_ev_st 1 (f' := am_br ((am_bz r1) ≠ 0) 32 7 [(0, .ref 0)] [] (W9 N C E F P Q) k n) (g := True ∧ True) (by with_unfolding_all rfl) ⟨trivial, trivial⟩ ?_
  by_cases c2 : (am_bz r1) ≠ 0
  · rw [if_pos c2] at h
    refine am_ev_pos c2 ?_
    refine am_ev_st 1 (f' := (33, [(0, .ref 0)], [.int (-1 : Int32)], (W9 N C E F P Q), k, n)) (g := True ∧ True) (by with_unfolding_all rfl) ⟨trivial, trivial⟩ ?_
    cases h
    exact am_ev_ret 0 0 0 rfl .int rfl rfl rfl
  · rw [if_neg c2] at h
    refine am_ev_neg c2 ?_
    refine am_ev_st 3 (f' := (15, [(0, .ref 0)], [.int (1 : Int32), .ref 15], (W9 N C E F P Q), k, n)) (g := True ∧ True ∧ True ∧ True) (by with_unfolding_all rfl) ⟨trivial, trivial, trivial, trivial⟩ ?_
    replace h := Option.bind_eq_some_iff.mp h
    obtain ⟨r3, hc3, h⟩ := h
    try dsimp only at h
    refine am_ev_call (.invokevirtual 118) 20 2 281 [.ref 15, .int (1 : Int32)] [] rfl rfl rfl rfl (ok_fM_hasTooGreat_P hc3 D (by omega)) rfl ?_
    refine am_ev_st 1 (f' := am_br ((am_bz r3) ≠ 0) 32 18 [(0, .ref 0)] [] (W9 N C E F P Q) k n) (g := True ∧ True) (by with_unfolding_all rfl) ⟨trivial, trivial⟩ ?_
    by_cases c4 : (am_bz r3) ≠ 0
    · rw [if_pos c4] at h
      refine am_ev_pos c4 ?_
      refine am_ev_st 1 (f' := (33, [(0, .ref 0)], [.int (-1 : Int32)], (W9 N C E F P Q), k, n)) (g := True ∧ True) (by with_unfolding_all rfl) ⟨trivial, trivial⟩ ?_
      cases h
      exact am_ev_ret 0 0 0 rfl .int rfl rfl rfl
    · rw [if_neg c4] at h
      refine am_ev_neg c4 ?_
      refine am_ev_st 3 (f' := (26, [(0, .ref 0)], [.int (0 : Int32), .ref 15], (W9 N C E F P Q), k, n)) (g := True ∧ True ∧ True ∧ True) (by with_unfolding_all rfl) ⟨trivial, trivial, trivial, trivial⟩ ?_
      replace h := Option.bind_eq_some_iff.mp h
      obtain ⟨r5, hc5, h⟩ := h
      try dsimp only at h
      refine am_ev_call (.invokevirtual 118) 20 2 281 [.ref 15, .int (0 : Int32)] [] rfl rfl rfl rfl (ok_fM_hasTooGreat_P hc5 D (by omega)) rfl ?_
      refine am_ev_st 1 (f' := am_br ((am_bz r5) = 0) 34 29 [(0, .ref 0)] [] (W9 N C E F P Q) k n) (g := True ∧ True) (by with_unfolding_all rfl) ⟨trivial, trivial⟩ ?_
      by_cases c6 : (am_bz r5) = 0
      · rw [if_pos c6] at h
        refine am_ev_pos c6 ?_
        refine am_ev_st 2 (f' := (38, [(0, .ref 0)], [.ref 1], (W9 N C E F P Q), k, n)) (g := True ∧ True ∧ True) (by with_unfolding_all rfl) ⟨trivial, trivial, trivial⟩ ?_
        replace h := Option.bind_eq_some_iff.mp h
        obtain ⟨r7, hc7, h⟩ := h
        try dsimp only at h
        refine am_ev_call (.invokevirtual 63) 26 0 223 [.ref 1] [] rfl rfl rfl rfl (ok_fN_termCount hc7 D (by omega)) rfl ?_
        refine am_ev_st 6 (f' := (51, [(1, .int r7), (0, .ref 0)], [.int (1 : Int32), .ref 1, .ref 15], (W9 N C E F P Q), k, n)) (g := True ∧ True ∧ True ∧ True ∧ True ∧ True ∧ True) (by with_unfolding_all rfl) ⟨trivial, trivial, trivial, trivial, trivial, trivial, trivial⟩ ?_
        replace h := Option.bind_eq_some_iff.mp h
        obtain ⟨⟨r8, N_8, P_8, ⟨k_8, n_8⟩⟩, hc8, h⟩ := h
        try dsimp only at h
        refine am_ev_call (.invokevirtual 143) 23 4 289 [.ref 15, .ref 1, .int (1 : Int32)] [] rfl rfl rfl rfl (ok_fM_read_P hc8 D (by omega)) rfl ?_
        refine am_ev_st 4 (f' := am_br (r8 ≠ (-1 : Int32)) 68 57 [(2, .int r8), (1, .int r7), (0, .ref 0)] [] (W9 N_8 C E F P_8 Q) k_8 n_8) (g := True ∧ True ∧ True ∧ True ∧ True) (by with_unfolding_all rfl) ⟨trivial, trivial, trivial, trivial, trivial⟩ ?_
        by_cases c9 : r8 ≠ (-1 : Int32)
        · rw [if_pos c9] at h
          refine am_ev_pos c9 ?_
          refine am_ev_st 1 (f' := (69, [(2, .int r8), (1, .int r7), (0, .ref 0)], [.int r8], (W9 N_8 C E F P_8 Q), k_8, n_8)) (g := True ∧ True) (by with_unfolding_all rfl) ⟨trivial, trivial⟩ ?_
          cases h
          exact am_ev_ret 0 0 0 rfl .int rfl rfl rfl
        · rw [if_neg c9] at h
          refine am_ev_neg c9 ?_
          refine am_ev_st 3 (f' := (65, [(2, .int r8), (1, .int r7), (0, .ref 0)], [.int r7, .ref 1], (W9 N_8 C E F P_8 Q), k_8, n_8)) (g := True ∧ True ∧ True ∧ True) (by with_unfolding_all rfl) ⟨trivial, trivial, trivial, trivial⟩ ?_
          replace h := Option.bind_eq_some_iff.mp h
          obtain ⟨N_10, hc10, h⟩ := h
          try dsimp only at h
          refine am_ev_call (.invokevirtual 147) 37 2 398 [.ref 1, .int r7] [] rfl rfl rfl rfl (ok_fN_cutTerms hc10 D (by omega)) rfl ?_
          refine am_ev_st 1 (f' := (69, [(2, .int r8), (1, .int r7), (0, .ref 0)], [.int r8], (W9 N_10 C E F P_8 Q), k_8, n_8)) (g := True ∧ True) (by with_unfolding_all rfl) ⟨trivial, trivial⟩ ?_
          cases h
          exact am_ev_ret 0 0 0 rfl .int rfl rfl rfl
      · rw [if_neg c6] at h
        refine am_ev_neg c6 ?_
        refine am_ev_st 1 (f' := (33, [(0, .ref 0)], [.int (-1 : Int32)], (W9 N C E F P Q), k, n)) (g := True ∧ True) (by with_unfolding_all rfl) ⟨trivial, trivial⟩ ?_
        cases h
        exact am_ev_ret 0 0 0 rfl .int rfl rfl rfl
def fE_madeCount (E : cE) : Option (Int32) :=
  match E with
  | (fi, se, op, fu, ma) =>
  some ma
set_option maxHeartbeats 4000000 in
set_option maxRecDepth 100000 in
theorem ok_fE_madeCount  {N : cN} {C : cC} {E : cE} {F : cF} {P : cP} {Q : cQ} {k n : Nat} {rv : Int32} (h : fE_madeCount E = some rv) (D : Nat) (hD : 1 ≤ D) : am_Call D 47 [.ref 10] (W9 N C E F P Q) k n (.inl (some (.int rv)), W9 N C E F P Q, k, n) := by
  unfold fE_madeCount at h
  obtain ⟨D, rfl⟩ : ∃ D', D = D' + 1 := ⟨D - 1, by omega⟩
  have hD : 0 ≤ D := by omega
  refine am_call_run (by decide) (by decide) rfl (Nat.le_of_ble_eq_true rfl) (by decide) (L := [(0, .ref 10)]) rfl ?_
  obtain ⟨fi, se, op, fu, ma⟩ := E
  try dsimp only at h
  refine am_ev_st 2 (f' := (4, [(0, .ref 10)], [.int ma], (W9 N C (fi, se, op, fu, ma) F P Q), k, n)) (g := True ∧ True ∧ True) (by with_unfolding_all rfl) ⟨trivial, trivial, trivial⟩ ?_
  cases h
  exact am_ev_ret 0 0 0 rfl .int rfl rfl rfl
def fJ_reduced (E : cE) : Option (Int32) :=
  (fE_madeCount E).bind fun z1 =>
  match z1 with
  | (r1) =>
  some r1
set_option maxHeartbeats 4000000 in
set_option maxRecDepth 100000 in
theorem ok_fJ_reduced  {N : cN} {C : cC} {E : cE} {F : cF} {P : cP} {Q : cQ} {k n : Nat} {rv : Int32} (h : fJ_reduced E = some rv) (D : Nat) (hD : 2 ≤ D) : am_Call D 68 [.ref 0] (W9 N C E F P Q) k n (.inl (some (.int rv)), W9 N C E F P Q, k, n) := by
  unfold fJ_reduced at h
  obtain ⟨D, rfl⟩ : ∃ D', D = D' + 1 := ⟨D - 1, by omega⟩
  have hD : 1 ≤ D := by omega
  refine am_call_run (by decide) (by decide) rfl (Nat.le_of_ble_eq_true rfl) (by decide) (L := [(0, .ref 0)]) rfl ?_
  refine am_ev_st 2 (f' := (4, [(0, .ref 0)], [.ref 10], (W9 N C E F P Q), k, n)) (g := True ∧ True ∧ True) (by with_unfolding_all rfl) ⟨trivial, trivial, trivial⟩ ?_
  replace h := Option.bind_eq_some_iff.mp h
  obtain ⟨r1, hc1, h⟩ := h
  try dsimp only at h
  refine am_ev_call (.invokevirtual 151) 47 0 406 [.ref 10] [] rfl rfl rfl rfl (ok_fE_madeCount hc1 D (by omega)) rfl ?_
  cases h
  exact am_ev_ret 0 0 0 rfl .int rfl rfl rfl
def fN_dropPassing (N : cN) : Option (cN) :=
  match N with
  | (nK, nL, nR, nS, nD, cap, mt, le, en) =>
  some (nK, nL, nR, nS, nD, cap, mt, le, le)
set_option maxHeartbeats 4000000 in
set_option maxRecDepth 100000 in
theorem ok_fN_dropPassing  {N : cN} {C : cC} {E : cE} {F : cF} {P : cP} {Q : cQ} {k n : Nat} {N' : cN} (h : fN_dropPassing N = some N') (D : Nat) (hD : 1 ≤ D) : am_Call D 41 [.ref 1] (W9 N C E F P Q) k n (.inl none, W9 N' C E F P Q, k, n) := by
  unfold fN_dropPassing at h
  obtain ⟨D, rfl⟩ : ∃ D', D = D' + 1 := ⟨D - 1, by omega⟩
  have hD : 0 ≤ D := by omega
  refine am_call_run (by decide) (by decide) rfl (Nat.le_of_ble_eq_true rfl) (by decide) (L := [(0, .ref 1)]) rfl ?_
  obtain ⟨nK, nL, nR, nS, nD, cap, mt, le, en⟩ := N
  try dsimp only at h
  refine am_ev_st 4 (f' := (8, [(0, .ref 1)], [], (W9 (nK, nL, nR, nS, nD, cap, mt, le, le) C E F P Q), k, n)) (g := True ∧ True ∧ True ∧ True ∧ True) (by with_unfolding_all rfl) ⟨trivial, trivial, trivial, trivial, trivial⟩ ?_
  cases h
  exact am_ev_vret 0 0 0 rfl rfl rfl
def fE_refuel (E : cE) (p1 : Int32) : Option (cE) :=
  match E with
  | (fi, se, op, fu, ma) =>
  some (fi, se, op, p1, (0 : Int32))
set_option maxHeartbeats 4000000 in
set_option maxRecDepth 100000 in
theorem ok_fE_refuel  {N : cN} {C : cC} {E : cE} {F : cF} {P : cP} {Q : cQ} {k n : Nat} {p1 : Int32} {E' : cE} (h : fE_refuel E p1 = some E') (D : Nat) (hD : 1 ≤ D) : am_Call D 46 [.ref 10, .int p1] (W9 N C E F P Q) k n (.inl none, W9 N C E' F P Q, k, n) := by
  unfold fE_refuel at h
  obtain ⟨D, rfl⟩ : ∃ D', D = D' + 1 := ⟨D - 1, by omega⟩
  have hD : 0 ≤ D := by omega
  refine am_call_run (by decide) (by decide) rfl (Nat.le_of_ble_eq_true rfl) (by decide) (L := [(0, .ref 10), (1, .int p1)]) rfl ?_
  obtain ⟨fi, se, op, fu, ma⟩ := E
  try dsimp only at h
  refine am_ev_st 6 (f' := (10, [(0, .ref 10), (1, .int p1)], [], (W9 N C (fi, se, op, p1, (0 : Int32)) F P Q), k, n)) (g := True ∧ True ∧ True ∧ True ∧ True ∧ True ∧ True) (by with_unfolding_all rfl) ⟨trivial, trivial, trivial, trivial, trivial, trivial, trivial⟩ ?_
  cases h
  exact am_ev_vret 0 0 0 rfl rfl rfl
def fF_forgetTypes (F : cF) : Option (cF) :=
  match F with
  | (tt, tc) =>
  some (tt, (0 : Int32))
set_option maxHeartbeats 4000000 in
set_option maxRecDepth 100000 in
theorem ok_fF_forgetTypes  {N : cN} {C : cC} {E : cE} {F : cF} {P : cP} {Q : cQ} {k n : Nat} {F' : cF} (h : fF_forgetTypes F = some F') (D : Nat) (hD : 1 ≤ D) : am_Call D 8 [.ref 13] (W9 N C E F P Q) k n (.inl none, W9 N C E F' P Q, k, n) := by
  unfold fF_forgetTypes at h
  obtain ⟨D, rfl⟩ : ∃ D', D = D' + 1 := ⟨D - 1, by omega⟩
  have hD : 0 ≤ D := by omega
  refine am_call_run (by decide) (by decide) rfl (Nat.le_of_ble_eq_true rfl) (by decide) (L := [(0, .ref 13)]) rfl ?_
  obtain ⟨tt, tc⟩ := F
  try dsimp only at h
  refine am_ev_st 3 (f' := (5, [(0, .ref 13)], [], (W9 N C E (tt, (0 : Int32)) P Q), k, n)) (g := True ∧ True ∧ True ∧ True) (by with_unfolding_all rfl) ⟨trivial, trivial, trivial, trivial⟩ ?_
  cases h
  exact am_ev_vret 0 0 0 rfl rfl rfl
def fJ_begin (N : cN) (E : cE) (F : cF) (k n : Nat) (p1 p2 p3 : Int32) : Option (((Unit) ⊕ Nat) × cN × cE × cF × (Nat × Nat)) :=
  (fN_isTerm N p1).bind fun z1 =>
  match z1 with
  | (r1) =>
  if (am_bz r1) = 0 then
  (some (.inr 0, N, E, F, ((k + 1), (n + 6))))
  else
  (fN_isTerm N p2).bind fun z3 =>
  match z3 with
  | (r3) =>
  if (am_bz r3) = 0 then
  (some (.inr 0, N, E, F, ((k + 1), (n + 6))))
  else
  if p3 < 0 then
  (some (.inr 0, N, E, F, ((k + 1), (n + 6))))
  else
  if p3 ≤ (30 : Int32) then
  ((fN_dropPassing N).bind fun z7 =>
  match z7 with
  | (N_7) =>
  (fE_refuel E p3).bind fun z8 =>
  match z8 with
  | (E_8) =>
  (fF_forgetTypes F).bind fun z9 =>
  match z9 with
  | (F_9) =>
  some (.inl (), N_7, E_8, F_9, (k, n)))
  else
  some (.inr 0, N, E, F, ((k + 1), (n + 6)))
set_option maxHeartbeats 4000000 in
set_option maxRecDepth 100000 in
theorem ok_fJ_begin  {N : cN} {C : cC} {E : cE} {F : cF} {P : cP} {Q : cQ} {k n : Nat} {p1 p2 p3 : Int32} {rv : (Unit) ⊕ Nat} {N' : cN} {E' : cE} {F' : cF} {k' n' : Nat} (h : fJ_begin N E F k n p1 p2 p3 = some (rv, N', E', F', (k', n'))) (D : Nat) (hD : 2 ≤ D) : am_Call D 71 [.ref 0, .int p1, .int p2, .int p3] (W9 N C E F P Q) k n (am_oV rv, W9 N' C E' F' P Q, k', n') := by
  unfold fJ_begin at h
  obtain ⟨D, rfl⟩ : ∃ D', D = D' + 1 := ⟨D - 1, by omega⟩
  have hD : 1 ≤ D := by omega
  refine am_call_run (by decide) (by decide) rfl (Nat.le_of_ble_eq_true rfl) (by decide) (L := [(0, .ref 0), (1, .int p1), (2, .int p2), (3, .int p3)]) rfl ?_
  refine am_ev_st 3 (f' := (5, [(0, .ref 0), (1, .int p1), (2, .int p2), (3, .int p3)], [.int p1, .ref 1], (W9 N C E F P Q), k, n)) (g := True ∧ True ∧ True ∧ True) (by with_unfolding_all rfl) ⟨trivial, trivial, trivial, trivial⟩ ?_
  replace h := Option.bind_eq_some_iff.mp h
  obtain ⟨r1, hc1, h⟩ := h
  try dsimp only at h
  refine am_ev_call (.invokevirtual 67) 27 2 192 [.ref 1, .int p1] [] rfl rfl rfl rfl (ok_fN_isTerm hc1 D (by omega)) rfl ?_
  refine am_ev_st 1 (f' := am_br ((am_bz r1) = 0) 32 8 [(0, .ref 0), (1, .int p1), (2, .int p2), (3, .int p3)] [] (W9 N C E F P Q) k n) (g := True ∧ True) (by with_unfolding_all rfl) ⟨trivial, trivial⟩ ?_
  by_cases c2 : (am_bz r1) = 0
  · rw [if_pos c2] at h
    refine am_ev_pos c2 ?_
    cases h
    exact am_ev_throw (.new 157) 11 0 424 rfl _ rfl rfl rfl rfl rfl rfl rfl
  · rw [if_neg c2] at h
    refine am_ev_neg c2 ?_
    refine am_ev_st 3 (f' := (16, [(0, .ref 0), (1, .int p1), (2, .int p2), (3, .int p3)], [.int p2, .ref 1], (W9 N C E F P Q), k, n)) (g := True ∧ True ∧ True ∧ True) (by with_unfolding_all rfl) ⟨trivial, trivial, trivial, trivial⟩ ?_
    replace h := Option.bind_eq_some_iff.mp h
    obtain ⟨r3, hc3, h⟩ := h
    try dsimp only at h
    refine am_ev_call (.invokevirtual 67) 27 2 192 [.ref 1, .int p2] [] rfl rfl rfl rfl (ok_fN_isTerm hc3 D (by omega)) rfl ?_
    refine am_ev_st 1 (f' := am_br ((am_bz r3) = 0) 32 19 [(0, .ref 0), (1, .int p1), (2, .int p2), (3, .int p3)] [] (W9 N C E F P Q) k n) (g := True ∧ True) (by with_unfolding_all rfl) ⟨trivial, trivial⟩ ?_
    by_cases c4 : (am_bz r3) = 0
    · rw [if_pos c4] at h
      refine am_ev_pos c4 ?_
      cases h
      exact am_ev_throw (.new 157) 11 0 424 rfl _ rfl rfl rfl rfl rfl rfl rfl
    · rw [if_neg c4] at h
      refine am_ev_neg c4 ?_
      refine am_ev_st 2 (f' := am_br (p3 < 0) 32 23 [(0, .ref 0), (1, .int p1), (2, .int p2), (3, .int p3)] [] (W9 N C E F P Q) k n) (g := True ∧ True ∧ True) (by with_unfolding_all rfl) ⟨trivial, trivial, trivial⟩ ?_
      by_cases c5 : p3 < 0
      · rw [if_pos c5] at h
        refine am_ev_pos c5 ?_
        cases h
        exact am_ev_throw (.new 157) 11 0 424 rfl _ rfl rfl rfl rfl rfl rfl rfl
      · rw [if_neg c5] at h
        refine am_ev_neg c5 ?_
        refine am_ev_st 3 (f' := am_br (p3 ≤ (30 : Int32)) 42 29 [(0, .ref 0), (1, .int p1), (2, .int p2), (3, .int p3)] [] (W9 N C E F P Q) k n) (g := True ∧ True ∧ True ∧ True) (by with_unfolding_all rfl) ⟨trivial, trivial, trivial, trivial⟩ ?_
        by_cases c6 : p3 ≤ (30 : Int32)
        · rw [if_pos c6] at h
          refine am_ev_pos c6 ?_
          refine am_ev_st 2 (f' := (46, [(0, .ref 0), (1, .int p1), (2, .int p2), (3, .int p3)], [.ref 1], (W9 N C E F P Q), k, n)) (g := True ∧ True ∧ True) (by with_unfolding_all rfl) ⟨trivial, trivial, trivial⟩ ?_
          replace h := Option.bind_eq_some_iff.mp h
          obtain ⟨N_7, hc7, h⟩ := h
          try dsimp only at h
          refine am_ev_call (.invokevirtual 164) 41 0 440 [.ref 1] [] rfl rfl rfl rfl (ok_fN_dropPassing hc7 D (by omega)) rfl ?_
          refine am_ev_st 3 (f' := (54, [(0, .ref 0), (1, .int p1), (2, .int p2), (3, .int p3)], [.int p3, .ref 10], (W9 N_7 C E F P Q), k, n)) (g := True ∧ True ∧ True ∧ True) (by with_unfolding_all rfl) ⟨trivial, trivial, trivial, trivial⟩ ?_
          replace h := Option.bind_eq_some_iff.mp h
          obtain ⟨E_8, hc8, h⟩ := h
          try dsimp only at h
          refine am_ev_call (.invokevirtual 167) 46 2 444 [.ref 10, .int p3] [] rfl rfl rfl rfl (ok_fE_refuel hc8 D (by omega)) rfl ?_
          refine am_ev_st 2 (f' := (61, [(0, .ref 0), (1, .int p1), (2, .int p2), (3, .int p3)], [.ref 13], (W9 N_7 C E_8 F P Q), k, n)) (g := True ∧ True ∧ True) (by with_unfolding_all rfl) ⟨trivial, trivial, trivial⟩ ?_
          replace h := Option.bind_eq_some_iff.mp h
          obtain ⟨F_9, hc9, h⟩ := h
          try dsimp only at h
          refine am_ev_call (.invokevirtual 170) 8 0 448 [.ref 13] [] rfl rfl rfl rfl (ok_fF_forgetTypes hc9 D (by omega)) rfl ?_
          cases h
          exact am_ev_vret 0 0 0 rfl rfl rfl
        · rw [if_neg c6] at h
          refine am_ev_neg c6 ?_
          cases h
          exact am_ev_throw (.new 157) 11 0 424 rfl _ rfl rfl rfl rfl rfl rfl rfl
def fN_changed : Nat → cN → Nat → Nat → Int32 → Int32 → Int32 → Int32 → Option (Int32 × cN × (Nat × Nat))
  | 0, _, _, _, _, _, _, _ => none
  | d + 1, N, k, n, p1, p2, p3, p4 =>
    (fN_kindOf N p1).bind fun z1 =>
    match z1 with
    | (r1) =>
    (fN_leftOf N p1).bind fun z2 =>
    match z2 with
    | (r2) =>
    if r1 ≠ 0 then
    ((fJ_hasParts r1).bind fun z4 =>
    match z4 with
    | (r4) =>
    if (am_bz r4) ≠ 0 then
    ((fN_rightOf N p1).bind fun z6 =>
    match z6 with
    | (r6) =>
    (fN_changed d N k n r2 p2 p3 p4).bind fun z7 =>
    match z7 with
    | (r7, N_7, (k_7, n_7)) =>
    if r1 ≠ (4 : Int32) then
    ((fN_changed d N_7 k_7 n_7 r6 (p2 + (1 : Int32)) p3 p4).bind fun z9 =>
    match z9 with
    | (r9, N_9, (k_9, n_9)) =>
    if r7 ≠ r2 then
    ((fN_add N_9 k_9 n_9 r1 r7 r9).bind fun z11 =>
    match z11 with
    | (r11, N_11, (k_11, n_11)) =>
    some (r11, N_11, (k_11, n_11)))
    else
    if r9 ≠ r6 then
    ((fN_add N_9 k_9 n_9 r1 r7 r9).bind fun z13 =>
    match z13 with
    | (r13, N_13, (k_13, n_13)) =>
    some (r13, N_13, (k_13, n_13)))
    else
    some (p1, N_9, (k_9, n_9)))
    else
    (fN_changed d N_7 k_7 n_7 r6 p2 p3 p4).bind fun z14 =>
    match z14 with
    | (r14, N_14, (k_14, n_14)) =>
    if r7 ≠ r2 then
    ((fN_add N_14 k_14 n_14 r1 r7 r14).bind fun z16 =>
    match z16 with
    | (r16, N_16, (k_16, n_16)) =>
    some (r16, N_16, (k_16, n_16)))
    else
    if r14 ≠ r6 then
    ((fN_add N_14 k_14 n_14 r1 r7 r14).bind fun z18 =>
    match z18 with
    | (r18, N_18, (k_18, n_18)) =>
    some (r18, N_18, (k_18, n_18)))
    else
    some (p1, N_14, (k_14, n_14)))
    else
    some (p1, N, (k, n)))
    else
    if p3 = (-1 : Int32) then
    (if r2 < p2 then
    (some (p1, N, (k, n)))
    else
    if p4 ≠ 0 then
    ((fN_add N k n (0 : Int32) (r2 + p4) (-1 : Int32)).bind fun z22 =>
    match z22 with
    | (r22, N_22, (k_22, n_22)) =>
    some (r22, N_22, (k_22, n_22)))
    else
    some (p1, N, (k, n)))
    else
    if r2 ≠ p2 then
    (if r2 < p2 then
    (some (p1, N, (k, n)))
    else
    if p4 ≠ 0 then
    ((fN_add N k n (0 : Int32) (r2 + p4) (-1 : Int32)).bind fun z26 =>
    match z26 with
    | (r26, N_26, (k_26, n_26)) =>
    some (r26, N_26, (k_26, n_26)))
    else
    some (p1, N, (k, n)))
    else
    if p2 ≠ 0 then
    ((fN_changed d N k n p3 (0 : Int32) (-1 : Int32) p2).bind fun z28 =>
    match z28 with
    | (r28, N_28, (k_28, n_28)) =>
    some (r28, N_28, (k_28, n_28)))
    else
    some (p3, N, (k, n))
set_option maxHeartbeats 4000000 in
set_option maxRecDepth 100000 in
theorem ok_fN_changed  : ∀ {d : Nat} {N : cN} {C : cC} {E : cE} {F : cF} {P : cP} {Q : cQ} {k n : Nat} {p1 p2 p3 p4 : Int32} {rv : Int32} {N' : cN} {k' n' : Nat} (h : fN_changed d N k n p1 p2 p3 p4 = some (rv, N', (k', n'))) (D : Nat) (hD : d + 2 ≤ D), am_Call D 43 [.ref 1, .int p1, .int p2, .int p3, .int p4] (W9 N C E F P Q) k n (.inl (some (.int rv)), W9 N' C E F P Q, k', n') := by
  intro d
  induction d with
  | zero => intros; rename_i h _ _; cases h
  | succ d ih0 =>
    intro N C E F P Q k n p1 p2 p3 p4 rv N' k' n' h D hD
    have ih := fun {N} {C} {E} {F} {P} {Q} {k} {n} {p1} {p2} {p3} {p4} {rv} {N'} {k'} {n'} h D hD => @ih0 N C E F P Q k n p1 p2 p3 p4 rv N' k' n' h D hD
    unfold fN_changed at h
    obtain ⟨D, rfl⟩ : ∃ D', D = D' + 1 := ⟨D - 1, by omega⟩
    refine am_call_run (by decide) (by decide) rfl (Nat.le_of_ble_eq_true rfl) (by decide) (L := [(0, .ref 1), (1, .int p1), (2, .int p2), (3, .int p3), (4, .int p4)]) rfl ?_
    refine am_ev_st 2 (f' := (2, [(0, .ref 1), (1, .int p1), (2, .int p2), (3, .int p3), (4, .int p4)], [.int p1, .ref 1], (W9 N C E F P Q), k, n)) (g := True ∧ True ∧ True) (by with_unfolding_all rfl) ⟨trivial, trivial, trivial⟩ ?_
    replace h := Option.bind_eq_some_iff.mp h
    obtain ⟨r1, hc1, h⟩ := h
    try dsimp only at h
    refine am_ev_call (.invokevirtual 54) 28 2 301 [.ref 1, .int p1] [] rfl rfl rfl rfl (ok_fN_kindOf hc1 D (by omega)) rfl ?_
    refine am_ev_st 3 (f' := (9, [(5, .int r1), (0, .ref 1), (1, .int p1), (2, .int p2), (3, .int p3), (4, .int p4)], [.int p1, .ref 1], (W9 N C E F P Q), k, n)) (g := True ∧ True ∧ True ∧ True) (by with_unfolding_all rfl) ⟨trivial, trivial, trivial, trivial⟩ ?_
    replace h := Option.bind_eq_some_iff.mp h
    obtain ⟨r2, hc2, h⟩ := h
    try dsimp only at h
    refine am_ev_call (.invokevirtual 57) 29 2 302 [.ref 1, .int p1] [] rfl rfl rfl rfl (ok_fN_leftOf hc2 D (by omega)) rfl ?_
    refine am_ev_st 3 (f' := am_br (r1 ≠ 0) 74 16 [(6, .int r2), (5, .int r1), (0, .ref 1), (1, .int p1), (2, .int p2), (3, .int p3), (4, .int p4)] [] (W9 N C E F P Q) k n) (g := True ∧ True ∧ True ∧ True) (by with_unfolding_all rfl) ⟨trivial, trivial, trivial, trivial⟩ ?_
    by_cases c3 : r1 ≠ 0
    · rw [if_pos c3] at h
      refine am_ev_pos c3 ?_
      refine am_ev_st 1 (f' := (76, [(6, .int r2), (5, .int r1), (0, .ref 1), (1, .int p1), (2, .int p2), (3, .int p3), (4, .int p4)], [.int r1], (W9 N C E F P Q), k, n)) (g := True ∧ True) (by with_unfolding_all rfl) ⟨trivial, trivial⟩ ?_
      replace h := Option.bind_eq_some_iff.mp h
      obtain ⟨r4, hc4, h⟩ := h
      try dsimp only at h
      refine am_ev_call (.invokestatic 91) 69 3 485 [.int r1] [] rfl rfl rfl rfl (ok_fJ_hasParts hc4 D (by omega)) rfl ?_
      refine am_ev_st 1 (f' := am_br ((am_bz r4) ≠ 0) 84 79 [(6, .int r2), (5, .int r1), (0, .ref 1), (1, .int p1), (2, .int p2), (3, .int p3), (4, .int p4)] [] (W9 N C E F P Q) k n) (g := True ∧ True) (by with_unfolding_all rfl) ⟨trivial, trivial⟩ ?_
      by_cases c5 : (am_bz r4) ≠ 0
      · rw [if_pos c5] at h
        refine am_ev_pos c5 ?_
        refine am_ev_st 2 (f' := (86, [(6, .int r2), (5, .int r1), (0, .ref 1), (1, .int p1), (2, .int p2), (3, .int p3), (4, .int p4)], [.int p1, .ref 1], (W9 N C E F P Q), k, n)) (g := True ∧ True ∧ True) (by with_unfolding_all rfl) ⟨trivial, trivial, trivial⟩ ?_
        replace h := Option.bind_eq_some_iff.mp h
        obtain ⟨r6, hc6, h⟩ := h
        try dsimp only at h
        refine am_ev_call (.invokevirtual 60) 30 2 303 [.ref 1, .int p1] [] rfl rfl rfl rfl (ok_fN_rightOf hc6 D (by omega)) rfl ?_
        refine am_ev_st 6 (f' := (98, [(7, .int r6), (6, .int r2), (5, .int r1), (0, .ref 1), (1, .int p1), (2, .int p2), (3, .int p3), (4, .int p4)], [.int p4, .int p3, .int p2, .int r2, .ref 1], (W9 N C E F P Q), k, n)) (g := True ∧ True ∧ True ∧ True ∧ True ∧ True ∧ True) (by with_unfolding_all rfl) ⟨trivial, trivial, trivial, trivial, trivial, trivial, trivial⟩ ?_
        replace h := Option.bind_eq_some_iff.mp h
        obtain ⟨⟨r7, N_7, ⟨k_7, n_7⟩⟩, hc7, h⟩ := h
        try dsimp only at h
        refine am_ev_call (.invokevirtual 84) 43 8 483 [.ref 1, .int r2, .int p2, .int p3, .int p4] [] rfl rfl rfl rfl (ih hc7 D (by omega)) rfl ?_
        refine am_ev_st 6 (f' := am_br (r1 ≠ (4 : Int32)) 116 109 [(8, .int r7), (7, .int r6), (6, .int r2), (5, .int r1), (0, .ref 1), (1, .int p1), (2, .int p2), (3, .int p3), (4, .int p4)] [.int r6, .ref 1] (W9 N_7 C E F P Q) k_7 n_7) (g := True ∧ True ∧ True ∧ True ∧ True ∧ True ∧ True) (by with_unfolding_all rfl) ⟨trivial, trivial, trivial, trivial, trivial, trivial, trivial⟩ ?_
        by_cases c8 : r1 ≠ (4 : Int32)
        · rw [if_pos c8] at h
          refine am_ev_pos c8 ?_
          refine am_ev_st 5 (f' := (122, [(8, .int r7), (7, .int r6), (6, .int r2), (5, .int r1), (0, .ref 1), (1, .int p1), (2, .int p2), (3, .int p3), (4, .int p4)], [.int p4, .int p3, .int (p2 + (1 : Int32)), .int r6, .ref 1], (W9 N_7 C E F P Q), k_7, n_7)) (g := True ∧ True ∧ True ∧ True ∧ True ∧ True) (by with_unfolding_all rfl) ⟨trivial, trivial, trivial, trivial, trivial, trivial⟩ ?_
          replace h := Option.bind_eq_some_iff.mp h
          obtain ⟨⟨r9, N_9, ⟨k_9, n_9⟩⟩, hc9, h⟩ := h
          try dsimp only at h
          refine am_ev_call (.invokevirtual 84) 43 8 483 [.ref 1, .int r6, .int (p2 + (1 : Int32)), .int p3, .int p4] [] rfl rfl rfl rfl (ih hc9 D (by omega)) rfl ?_
          refine am_ev_st 4 (f' := am_br (r7 ≠ r2) 145 131 [(9, .int r9), (8, .int r7), (7, .int r6), (6, .int r2), (5, .int r1), (0, .ref 1), (1, .int p1), (2, .int p2), (3, .int p3), (4, .int p4)] [] (W9 N_9 C E F P Q) k_9 n_9) (g := True ∧ True ∧ True ∧ True ∧ True) (by with_unfolding_all rfl) ⟨trivial, trivial, trivial, trivial, trivial⟩ ?_
          by_cases c10 : r7 ≠ r2
          · rw [if_pos c10] at h
            refine am_ev_pos c10 ?_
            refine am_ev_st 4 (f' := (152, [(9, .int r9), (8, .int r7), (7, .int r6), (6, .int r2), (5, .int r1), (0, .ref 1), (1, .int p1), (2, .int p2), (3, .int p3), (4, .int p4)], [.int r9, .int r7, .int r1, .ref 1], (W9 N_9 C E F P Q), k_9, n_9)) (g := True ∧ True ∧ True ∧ True ∧ True) (by with_unfolding_all rfl) ⟨trivial, trivial, trivial, trivial, trivial⟩ ?_
            replace h := Option.bind_eq_some_iff.mp h
            obtain ⟨⟨r11, N_11, ⟨k_11, n_11⟩⟩, hc11, h⟩ := h
            try dsimp only at h
            refine am_ev_call (.invokevirtual 88) 38 6 484 [.ref 1, .int r1, .int r7, .int r9] [] rfl rfl rfl rfl (ok_fN_add hc11 D (by omega)) rfl ?_
            cases h
            exact am_ev_ret 0 0 0 rfl .int rfl rfl rfl
          · rw [if_neg c10] at h
            refine am_ev_neg c10 ?_
            refine am_ev_st 3 (f' := am_br (r9 ≠ r6) 145 138 [(9, .int r9), (8, .int r7), (7, .int r6), (6, .int r2), (5, .int r1), (0, .ref 1), (1, .int p1), (2, .int p2), (3, .int p3), (4, .int p4)] [] (W9 N_9 C E F P Q) k_9 n_9) (g := True ∧ True ∧ True ∧ True) (by with_unfolding_all rfl) ⟨trivial, trivial, trivial, trivial⟩ ?_
            by_cases c12 : r9 ≠ r6
            · rw [if_pos c12] at h
              refine am_ev_pos c12 ?_
              refine am_ev_st 4 (f' := (152, [(9, .int r9), (8, .int r7), (7, .int r6), (6, .int r2), (5, .int r1), (0, .ref 1), (1, .int p1), (2, .int p2), (3, .int p3), (4, .int p4)], [.int r9, .int r7, .int r1, .ref 1], (W9 N_9 C E F P Q), k_9, n_9)) (g := True ∧ True ∧ True ∧ True ∧ True) (by with_unfolding_all rfl) ⟨trivial, trivial, trivial, trivial, trivial⟩ ?_
              replace h := Option.bind_eq_some_iff.mp h
              obtain ⟨⟨r13, N_13, ⟨k_13, n_13⟩⟩, hc13, h⟩ := h
              try dsimp only at h
              refine am_ev_call (.invokevirtual 88) 38 6 484 [.ref 1, .int r1, .int r7, .int r9] [] rfl rfl rfl rfl (ok_fN_add hc13 D (by omega)) rfl ?_
              cases h
              exact am_ev_ret 0 0 0 rfl .int rfl rfl rfl
            · rw [if_neg c12] at h
              refine am_ev_neg c12 ?_
              refine am_ev_st 2 (f' := (155, [(9, .int r9), (8, .int r7), (7, .int r6), (6, .int r2), (5, .int r1), (0, .ref 1), (1, .int p1), (2, .int p2), (3, .int p3), (4, .int p4)], [.int p1], (W9 N_9 C E F P Q), k_9, n_9)) (g := True ∧ True ∧ True) (by with_unfolding_all rfl) ⟨trivial, trivial, trivial⟩ ?_
              cases h
              exact am_ev_ret 0 0 0 rfl .int rfl rfl rfl
        · rw [if_neg c8] at h
          refine am_ev_neg c8 ?_
          refine am_ev_st 4 (f' := (122, [(8, .int r7), (7, .int r6), (6, .int r2), (5, .int r1), (0, .ref 1), (1, .int p1), (2, .int p2), (3, .int p3), (4, .int p4)], [.int p4, .int p3, .int p2, .int r6, .ref 1], (W9 N_7 C E F P Q), k_7, n_7)) (g := True ∧ True ∧ True ∧ True ∧ True) (by with_unfolding_all rfl) ⟨trivial, trivial, trivial, trivial, trivial⟩ ?_
          replace h := Option.bind_eq_some_iff.mp h
          obtain ⟨⟨r14, N_14, ⟨k_14, n_14⟩⟩, hc14, h⟩ := h
          try dsimp only at h
          refine am_ev_call (.invokevirtual 84) 43 8 483 [.ref 1, .int r6, .int p2, .int p3, .int p4] [] rfl rfl rfl rfl (ih hc14 D (by omega)) rfl ?_
          refine am_ev_st 4 (f' := am_br (r7 ≠ r2) 145 131 [(9, .int r14), (8, .int r7), (7, .int r6), (6, .int r2), (5, .int r1), (0, .ref 1), (1, .int p1), (2, .int p2), (3, .int p3), (4, .int p4)] [] (W9 N_14 C E F P Q) k_14 n_14) (g := True ∧ True ∧ True ∧ True ∧ True) (by with_unfolding_all rfl) ⟨trivial, trivial, trivial, trivial, trivial⟩ ?_
          by_cases c15 : r7 ≠ r2
          · rw [if_pos c15] at h
            refine am_ev_pos c15 ?_
            refine am_ev_st 4 (f' := (152, [(9, .int r14), (8, .int r7), (7, .int r6), (6, .int r2), (5, .int r1), (0, .ref 1), (1, .int p1), (2, .int p2), (3, .int p3), (4, .int p4)], [.int r14, .int r7, .int r1, .ref 1], (W9 N_14 C E F P Q), k_14, n_14)) (g := True ∧ True ∧ True ∧ True ∧ True) (by with_unfolding_all rfl) ⟨trivial, trivial, trivial, trivial, trivial⟩ ?_
            replace h := Option.bind_eq_some_iff.mp h
            obtain ⟨⟨r16, N_16, ⟨k_16, n_16⟩⟩, hc16, h⟩ := h
            try dsimp only at h
            refine am_ev_call (.invokevirtual 88) 38 6 484 [.ref 1, .int r1, .int r7, .int r14] [] rfl rfl rfl rfl (ok_fN_add hc16 D (by omega)) rfl ?_
            cases h
            exact am_ev_ret 0 0 0 rfl .int rfl rfl rfl
          · rw [if_neg c15] at h
            refine am_ev_neg c15 ?_
            refine am_ev_st 3 (f' := am_br (r14 ≠ r6) 145 138 [(9, .int r14), (8, .int r7), (7, .int r6), (6, .int r2), (5, .int r1), (0, .ref 1), (1, .int p1), (2, .int p2), (3, .int p3), (4, .int p4)] [] (W9 N_14 C E F P Q) k_14 n_14) (g := True ∧ True ∧ True ∧ True) (by with_unfolding_all rfl) ⟨trivial, trivial, trivial, trivial⟩ ?_
            by_cases c17 : r14 ≠ r6
            · rw [if_pos c17] at h
              refine am_ev_pos c17 ?_
              refine am_ev_st 4 (f' := (152, [(9, .int r14), (8, .int r7), (7, .int r6), (6, .int r2), (5, .int r1), (0, .ref 1), (1, .int p1), (2, .int p2), (3, .int p3), (4, .int p4)], [.int r14, .int r7, .int r1, .ref 1], (W9 N_14 C E F P Q), k_14, n_14)) (g := True ∧ True ∧ True ∧ True ∧ True) (by with_unfolding_all rfl) ⟨trivial, trivial, trivial, trivial, trivial⟩ ?_
              replace h := Option.bind_eq_some_iff.mp h
              obtain ⟨⟨r18, N_18, ⟨k_18, n_18⟩⟩, hc18, h⟩ := h
              try dsimp only at h
              refine am_ev_call (.invokevirtual 88) 38 6 484 [.ref 1, .int r1, .int r7, .int r14] [] rfl rfl rfl rfl (ok_fN_add hc18 D (by omega)) rfl ?_
              cases h
              exact am_ev_ret 0 0 0 rfl .int rfl rfl rfl
            · rw [if_neg c17] at h
              refine am_ev_neg c17 ?_
              refine am_ev_st 2 (f' := (155, [(9, .int r14), (8, .int r7), (7, .int r6), (6, .int r2), (5, .int r1), (0, .ref 1), (1, .int p1), (2, .int p2), (3, .int p3), (4, .int p4)], [.int p1], (W9 N_14 C E F P Q), k_14, n_14)) (g := True ∧ True ∧ True) (by with_unfolding_all rfl) ⟨trivial, trivial, trivial⟩ ?_
              cases h
              exact am_ev_ret 0 0 0 rfl .int rfl rfl rfl
      · rw [if_neg c5] at h
        refine am_ev_neg c5 ?_
        refine am_ev_st 1 (f' := (83, [(6, .int r2), (5, .int r1), (0, .ref 1), (1, .int p1), (2, .int p2), (3, .int p3), (4, .int p4)], [.int p1], (W9 N C E F P Q), k, n)) (g := True ∧ True) (by with_unfolding_all rfl) ⟨trivial, trivial⟩ ?_
        cases h
        exact am_ev_ret 0 0 0 rfl .int rfl rfl rfl
    · rw [if_neg c3] at h
      refine am_ev_neg c3 ?_
      refine am_ev_st 3 (f' := am_br (p3 = (-1 : Int32)) 47 21 [(6, .int r2), (5, .int r1), (0, .ref 1), (1, .int p1), (2, .int p2), (3, .int p3), (4, .int p4)] [] (W9 N C E F P Q) k n) (g := True ∧ True ∧ True ∧ True) (by with_unfolding_all rfl) ⟨trivial, trivial, trivial, trivial⟩ ?_
      by_cases c19 : p3 = (-1 : Int32)
      · rw [if_pos c19] at h
        refine am_ev_pos c19 ?_
        refine am_ev_st 3 (f' := am_br (r2 < p2) 58 50 [(6, .int r2), (5, .int r1), (0, .ref 1), (1, .int p1), (2, .int p2), (3, .int p3), (4, .int p4)] [] (W9 N C E F P Q) k n) (g := True ∧ True ∧ True ∧ True) (by with_unfolding_all rfl) ⟨trivial, trivial, trivial, trivial⟩ ?_
        by_cases c20 : r2 < p2
        · rw [if_pos c20] at h
          refine am_ev_pos c20 ?_
          refine am_ev_st 2 (f' := (73, [(6, .int r2), (5, .int r1), (0, .ref 1), (1, .int p1), (2, .int p2), (3, .int p3), (4, .int p4)], [.int p1], (W9 N C E F P Q), k, n)) (g := True ∧ True ∧ True) (by with_unfolding_all rfl) ⟨trivial, trivial, trivial⟩ ?_
          cases h
          exact am_ev_ret 0 0 0 rfl .int rfl rfl rfl
        · rw [if_neg c20] at h
          refine am_ev_neg c20 ?_
          refine am_ev_st 2 (f' := am_br (p4 ≠ 0) 62 55 [(6, .int r2), (5, .int r1), (0, .ref 1), (1, .int p1), (2, .int p2), (3, .int p3), (4, .int p4)] [] (W9 N C E F P Q) k n) (g := True ∧ True ∧ True) (by with_unfolding_all rfl) ⟨trivial, trivial, trivial⟩ ?_
          by_cases c21 : p4 ≠ 0
          · rw [if_pos c21] at h
            refine am_ev_pos c21 ?_
            refine am_ev_st 6 (f' := (70, [(6, .int r2), (5, .int r1), (0, .ref 1), (1, .int p1), (2, .int p2), (3, .int p3), (4, .int p4)], [.int (-1 : Int32), .int (r2 + p4), .int (0 : Int32), .ref 1], (W9 N C E F P Q), k, n)) (g := True ∧ True ∧ True ∧ True ∧ True ∧ True ∧ True) (by with_unfolding_all rfl) ⟨trivial, trivial, trivial, trivial, trivial, trivial, trivial⟩ ?_
            replace h := Option.bind_eq_some_iff.mp h
            obtain ⟨⟨r22, N_22, ⟨k_22, n_22⟩⟩, hc22, h⟩ := h
            try dsimp only at h
            refine am_ev_call (.invokevirtual 88) 38 6 484 [.ref 1, .int (0 : Int32), .int (r2 + p4), .int (-1 : Int32)] [] rfl rfl rfl rfl (ok_fN_add hc22 D (by omega)) rfl ?_
            cases h
            exact am_ev_ret 0 0 0 rfl .int rfl rfl rfl
          · rw [if_neg c21] at h
            refine am_ev_neg c21 ?_
            refine am_ev_st 2 (f' := (73, [(6, .int r2), (5, .int r1), (0, .ref 1), (1, .int p1), (2, .int p2), (3, .int p3), (4, .int p4)], [.int p1], (W9 N C E F P Q), k, n)) (g := True ∧ True ∧ True) (by with_unfolding_all rfl) ⟨trivial, trivial, trivial⟩ ?_
            cases h
            exact am_ev_ret 0 0 0 rfl .int rfl rfl rfl
      · rw [if_neg c19] at h
        refine am_ev_neg c19 ?_
        refine am_ev_st 3 (f' := am_br (r2 ≠ p2) 47 27 [(6, .int r2), (5, .int r1), (0, .ref 1), (1, .int p1), (2, .int p2), (3, .int p3), (4, .int p4)] [] (W9 N C E F P Q) k n) (g := True ∧ True ∧ True ∧ True) (by with_unfolding_all rfl) ⟨trivial, trivial, trivial, trivial⟩ ?_
        by_cases c23 : r2 ≠ p2
        · rw [if_pos c23] at h
          refine am_ev_pos c23 ?_
          refine am_ev_st 3 (f' := am_br (r2 < p2) 58 50 [(6, .int r2), (5, .int r1), (0, .ref 1), (1, .int p1), (2, .int p2), (3, .int p3), (4, .int p4)] [] (W9 N C E F P Q) k n) (g := True ∧ True ∧ True ∧ True) (by with_unfolding_all rfl) ⟨trivial, trivial, trivial, trivial⟩ ?_
          by_cases c24 : r2 < p2
          · rw [if_pos c24] at h
            refine am_ev_pos c24 ?_
            refine am_ev_st 2 (f' := (73, [(6, .int r2), (5, .int r1), (0, .ref 1), (1, .int p1), (2, .int p2), (3, .int p3), (4, .int p4)], [.int p1], (W9 N C E F P Q), k, n)) (g := True ∧ True ∧ True) (by with_unfolding_all rfl) ⟨trivial, trivial, trivial⟩ ?_
            cases h
            exact am_ev_ret 0 0 0 rfl .int rfl rfl rfl
          · rw [if_neg c24] at h
            refine am_ev_neg c24 ?_
            refine am_ev_st 2 (f' := am_br (p4 ≠ 0) 62 55 [(6, .int r2), (5, .int r1), (0, .ref 1), (1, .int p1), (2, .int p2), (3, .int p3), (4, .int p4)] [] (W9 N C E F P Q) k n) (g := True ∧ True ∧ True) (by with_unfolding_all rfl) ⟨trivial, trivial, trivial⟩ ?_
            by_cases c25 : p4 ≠ 0
            · rw [if_pos c25] at h
              refine am_ev_pos c25 ?_
              refine am_ev_st 6 (f' := (70, [(6, .int r2), (5, .int r1), (0, .ref 1), (1, .int p1), (2, .int p2), (3, .int p3), (4, .int p4)], [.int (-1 : Int32), .int (r2 + p4), .int (0 : Int32), .ref 1], (W9 N C E F P Q), k, n)) (g := True ∧ True ∧ True ∧ True ∧ True ∧ True ∧ True) (by with_unfolding_all rfl) ⟨trivial, trivial, trivial, trivial, trivial, trivial, trivial⟩ ?_
              replace h := Option.bind_eq_some_iff.mp h
              obtain ⟨⟨r26, N_26, ⟨k_26, n_26⟩⟩, hc26, h⟩ := h
              try dsimp only at h
              refine am_ev_call (.invokevirtual 88) 38 6 484 [.ref 1, .int (0 : Int32), .int (r2 + p4), .int (-1 : Int32)] [] rfl rfl rfl rfl (ok_fN_add hc26 D (by omega)) rfl ?_
              cases h
              exact am_ev_ret 0 0 0 rfl .int rfl rfl rfl
            · rw [if_neg c25] at h
              refine am_ev_neg c25 ?_
              refine am_ev_st 2 (f' := (73, [(6, .int r2), (5, .int r1), (0, .ref 1), (1, .int p1), (2, .int p2), (3, .int p3), (4, .int p4)], [.int p1], (W9 N C E F P Q), k, n)) (g := True ∧ True ∧ True) (by with_unfolding_all rfl) ⟨trivial, trivial, trivial⟩ ?_
              cases h
              exact am_ev_ret 0 0 0 rfl .int rfl rfl rfl
        · rw [if_neg c23] at h
          refine am_ev_neg c23 ?_
          refine am_ev_st 2 (f' := am_br (p2 ≠ 0) 38 31 [(6, .int r2), (5, .int r1), (0, .ref 1), (1, .int p1), (2, .int p2), (3, .int p3), (4, .int p4)] [] (W9 N C E F P Q) k n) (g := True ∧ True ∧ True) (by with_unfolding_all rfl) ⟨trivial, trivial, trivial⟩ ?_
          by_cases c27 : p2 ≠ 0
          · rw [if_pos c27] at h
            refine am_ev_pos c27 ?_
            refine am_ev_st 5 (f' := (43, [(6, .int r2), (5, .int r1), (0, .ref 1), (1, .int p1), (2, .int p2), (3, .int p3), (4, .int p4)], [.int p2, .int (-1 : Int32), .int (0 : Int32), .int p3, .ref 1], (W9 N C E F P Q), k, n)) (g := True ∧ True ∧ True ∧ True ∧ True ∧ True) (by with_unfolding_all rfl) ⟨trivial, trivial, trivial, trivial, trivial, trivial⟩ ?_
            replace h := Option.bind_eq_some_iff.mp h
            obtain ⟨⟨r28, N_28, ⟨k_28, n_28⟩⟩, hc28, h⟩ := h
            try dsimp only at h
            refine am_ev_call (.invokevirtual 84) 43 8 483 [.ref 1, .int p3, .int (0 : Int32), .int (-1 : Int32), .int p2] [] rfl rfl rfl rfl (ih hc28 D (by omega)) rfl ?_
            cases h
            exact am_ev_ret 0 0 0 rfl .int rfl rfl rfl
          · rw [if_neg c27] at h
            refine am_ev_neg c27 ?_
            refine am_ev_st 2 (f' := (46, [(6, .int r2), (5, .int r1), (0, .ref 1), (1, .int p1), (2, .int p2), (3, .int p3), (4, .int p4)], [.int p3], (W9 N C E F P Q), k, n)) (g := True ∧ True ∧ True) (by with_unfolding_all rfl) ⟨trivial, trivial, trivial⟩ ?_
            cases h
            exact am_ev_ret 0 0 0 rfl .int rfl rfl rfl
