def fN_add (N : cN) (k n : Nat) (p1 p2 p3 : Int32) : Option (Int32 × cN × (Nat × Nat)) :=
  match N with
  | (nK, nL, nR, nS, nD, cap, mt, le, en) =>
  if en < (Int32.ofNat cap) then
  ((fN_fill N en p1 p2 p3).bind fun z2 =>
  match z2 with
  | (N_2) =>
  match N_2 with
  | (nK_2, nL_2, nR_2, nS_2, nD_2, cap_2, mt_2, le_2, en_2) =>
  some (((en_2 + (1 : Int32)) - (1 : Int32)), (nK_2, nL_2, nR_2, nS_2, nD_2, cap_2, mt_2, le_2, (en_2 + (1 : Int32))), (k, n)))
  else
  (fN_grow N k n).bind fun z3 =>
  match z3 with
  | (N_3, (k_3, n_3)) =>
  match N_3 with
  | (nK_3, nL_3, nR_3, nS_3, nD_3, cap_3, mt_3, le_3, en_3) =>
  (fN_fill N_3 en_3 p1 p2 p3).bind fun z4 =>
  match z4 with
  | (N_4) =>
  match N_4 with
  | (nK_4, nL_4, nR_4, nS_4, nD_4, cap_4, mt_4, le_4, en_4) =>
  some (((en_4 + (1 : Int32)) - (1 : Int32)), (nK_4, nL_4, nR_4, nS_4, nD_4, cap_4, mt_4, le_4, (en_4 + (1 : Int32))), (k_3, n_3))
set_option maxHeartbeats 4000000 in
set_option maxRecDepth 100000 in
theorem ok_fN_add  {N : cN} {C : cC} {E : cE} {F : cF} {P : cP} {Q : cQ} {T : cT} {G : cG} {U : cU} {H : cH} {B : cB} {O : cO} {J : cJ} {V : cV} {Y : cY} {Z : cZ} {O9 : cO9} {k n : Nat} {p1 p2 p3 : Int32} {rv : Int32} {N' : cN} {k' n' : Nat} (h : fN_add N k n p1 p2 p3 = some (rv, N', (k', n'))) (D : Nat) (hD : 2 ≤ D) : am_Call D 38 [.ref 1, .int p1, .int p2, .int p3] (W9 N C E F P Q T G U H B O J V Y Z O9) k n (.inl (some (.int rv)), W9 N' C E F P Q T G U H B O J V Y Z O9, k', n') := by
  unfold fN_add at h
  obtain ⟨D, rfl⟩ : ∃ D', D = D' + 1 := ⟨D - 1, by omega⟩
  have hD : 1 ≤ D := by omega
  refine am_call_run (by decide) (by decide) rfl (Nat.le_of_ble_eq_true rfl) (by decide) (L := [(0, .ref 1), (1, .int p1), (2, .int p2), (3, .int p3)]) rfl ?_
  obtain ⟨nK, nL, nR, nS, nD, cap, mt, le, en⟩ := N
  try dsimp only at h
  refine am_ev_st 6 (f' := am_br (en < (Int32.ofNat cap)) 16 9 [(0, .ref 1), (1, .int p1), (2, .int p2), (3, .int p3)] [] (W9 (nK, nL, nR, nS, nD, cap, mt, le, en) C E F P Q T G U H B O J V Y Z O9) k n) (g := True ∧ True ∧ True ∧ True ∧ True ∧ True ∧ True) (by with_unfolding_all rfl) ⟨trivial, trivial, trivial, trivial, trivial, trivial, trivial⟩ ?_
  by_cases c1 : en < (Int32.ofNat cap)
  · rw [if_pos c1] at h
    refine am_ev_pos c1 ?_
    refine am_ev_st 6 (f' := (24, [(0, .ref 1), (1, .int p1), (2, .int p2), (3, .int p3)], [.int p3, .int p2, .int p1, .int en, .ref 1], (W9 (nK, nL, nR, nS, nD, cap, mt, le, en) C E F P Q T G U H B O J V Y Z O9), k, n)) (g := True ∧ True ∧ True ∧ True ∧ True ∧ True ∧ True) (by with_unfolding_all rfl) ⟨trivial, trivial, trivial, trivial, trivial, trivial, trivial⟩ ?_
    replace h := Option.bind_eq_some_iff.mp h
    obtain ⟨N_2, hc2, h⟩ := h
    try dsimp only at h
    refine am_ev_call (.invokevirtual 50) 39 8 246 [.ref 1, .int en, .int p1, .int p2, .int p3] [] rfl rfl rfl rfl (ok_fN_fill hc2 D (by omega)) rfl ?_
    obtain ⟨nK_2, nL_2, nR_2, nS_2, nD_2, cap_2, mt_2, le_2, en_2⟩ := N_2
    try dsimp only at h
    refine am_ev_st 10 (f' := (43, [(0, .ref 1), (1, .int p1), (2, .int p2), (3, .int p3)], [.int ((en_2 + (1 : Int32)) - (1 : Int32))], (W9 (nK_2, nL_2, nR_2, nS_2, nD_2, cap_2, mt_2, le_2, (en_2 + (1 : Int32))) C E F P Q T G U H B O J V Y Z O9), k, n)) (g := True ∧ True ∧ True ∧ True ∧ True ∧ True ∧ True ∧ True ∧ True ∧ True ∧ True) (by with_unfolding_all rfl) ⟨trivial, trivial, trivial, trivial, trivial, trivial, trivial, trivial, trivial, trivial, trivial⟩ ?_
    cases h
    exact am_ev_ret 0 0 0 rfl .int rfl rfl rfl
  · rw [if_neg c1] at h
    refine am_ev_neg c1 ?_
    refine am_ev_st 1 (f' := (13, [(0, .ref 1), (1, .int p1), (2, .int p2), (3, .int p3)], [.ref 1], (W9 (nK, nL, nR, nS, nD, cap, mt, le, en) C E F P Q T G U H B O J V Y Z O9), k, n)) (g := True ∧ True) (by with_unfolding_all rfl) ⟨trivial, trivial⟩ ?_
    replace h := Option.bind_eq_some_iff.mp h
    obtain ⟨⟨N_3, ⟨k_3, n_3⟩⟩, hc3, h⟩ := h
    try dsimp only at h
    refine am_ev_call (.invokevirtual 67) 40 0 354 [.ref 1] [] rfl rfl rfl rfl (ok_fN_grow hc3 D (by omega)) rfl ?_
    obtain ⟨nK_3, nL_3, nR_3, nS_3, nD_3, cap_3, mt_3, le_3, en_3⟩ := N_3
    try dsimp only at h
    refine am_ev_st 6 (f' := (24, [(0, .ref 1), (1, .int p1), (2, .int p2), (3, .int p3)], [.int p3, .int p2, .int p1, .int en_3, .ref 1], (W9 (nK_3, nL_3, nR_3, nS_3, nD_3, cap_3, mt_3, le_3, en_3) C E F P Q T G U H B O J V Y Z O9), k_3, n_3)) (g := True ∧ True ∧ True ∧ True ∧ True ∧ True ∧ True) (by with_unfolding_all rfl) ⟨trivial, trivial, trivial, trivial, trivial, trivial, trivial⟩ ?_
    replace h := Option.bind_eq_some_iff.mp h
    obtain ⟨N_4, hc4, h⟩ := h
    try dsimp only at h
    refine am_ev_call (.invokevirtual 50) 39 8 246 [.ref 1, .int en_3, .int p1, .int p2, .int p3] [] rfl rfl rfl rfl (ok_fN_fill hc4 D (by omega)) rfl ?_
    obtain ⟨nK_4, nL_4, nR_4, nS_4, nD_4, cap_4, mt_4, le_4, en_4⟩ := N_4
    try dsimp only at h
    refine am_ev_st 10 (f' := (43, [(0, .ref 1), (1, .int p1), (2, .int p2), (3, .int p3)], [.int ((en_4 + (1 : Int32)) - (1 : Int32))], (W9 (nK_4, nL_4, nR_4, nS_4, nD_4, cap_4, mt_4, le_4, (en_4 + (1 : Int32))) C E F P Q T G U H B O J V Y Z O9), k_3, n_3)) (g := True ∧ True ∧ True ∧ True ∧ True ∧ True ∧ True ∧ True ∧ True ∧ True ∧ True) (by with_unfolding_all rfl) ⟨trivial, trivial, trivial, trivial, trivial, trivial, trivial, trivial, trivial, trivial, trivial⟩ ?_
    cases h
    exact am_ev_ret 0 0 0 rfl .int rfl rfl rfl
def fN_changed : Nat → cN → Nat → Nat → Int32 → Int32 → Int32 → Int32 → Option (Int32 × cN × (Nat × Nat))
  | 0, _, _, _, _, _, _, _ => none
  | d + 1, N, k, n, p1, p2, p3, p4 =>
    (fN_kindOf N p1).bind fun z1 =>
    match z1 with
    | (r1) =>
    (fN_leftOf N p1).bind fun z2 =>
    match z2 with
    | (r2) =>
    if r1 ≠ 0 then
    ((fJ_hasParts r1).bind fun z4 =>
    match z4 with
    | (r4) =>
    if (am_bz r4) ≠ 0 then
    ((fN_rightOf N p1).bind fun z6 =>
    match z6 with
    | (r6) =>
    (fN_changed d N k n r2 p2 p3 p4).bind fun z7 =>
    match z7 with
    | (r7, N_7, (k_7, n_7)) =>
    if r1 ≠ (4 : Int32) then
    ((fN_changed d N_7 k_7 n_7 r6 (p2 + (1 : Int32)) p3 p4).bind fun z9 =>
    match z9 with
    | (r9, N_9, (k_9, n_9)) =>
    if r7 ≠ r2 then
    ((fN_add N_9 k_9 n_9 r1 r7 r9).bind fun z11 =>
    match z11 with
    | (r11, N_11, (k_11, n_11)) =>
    some (r11, N_11, (k_11, n_11)))
    else
    if r9 ≠ r6 then
    ((fN_add N_9 k_9 n_9 r1 r7 r9).bind fun z13 =>
    match z13 with
    | (r13, N_13, (k_13, n_13)) =>
    some (r13, N_13, (k_13, n_13)))
    else
    some (p1, N_9, (k_9, n_9)))
    else
    (fN_changed d N_7 k_7 n_7 r6 p2 p3 p4).bind fun z14 =>
    match z14 with
    | (r14, N_14, (k_14, n_14)) =>
    if r7 ≠ r2 then
    ((fN_add N_14 k_14 n_14 r1 r7 r14).bind fun z16 =>
    match z16 with
    | (r16, N_16, (k_16, n_16)) =>
    some (r16, N_16, (k_16, n_16)))
    else
    if r14 ≠ r6 then
    ((fN_add N_14 k_14 n_14 r1 r7 r14).bind fun z18 =>
    match z18 with
    | (r18, N_18, (k_18, n_18)) =>
    some (r18, N_18, (k_18, n_18)))
    else
    some (p1, N_14, (k_14, n_14)))
    else
    some (p1, N, (k, n)))
    else
    if p3 = (-1 : Int32) then
    (if r2 < p2 then
    (some (p1, N, (k, n)))
    else
    if p4 ≠ 0 then
    ((fN_add N k n (0 : Int32) (r2 + p4) (-1 : Int32)).bind fun z22 =>
    match z22 with
    | (r22, N_22, (k_22, n_22)) =>
    some (r22, N_22, (k_22, n_22)))
    else
    some (p1, N, (k, n)))
    else
    if r2 ≠ p2 then
    (if r2 < p2 then
    (some (p1, N, (k, n)))
    else
    if p4 ≠ 0 then
    ((fN_add N k n (0 : Int32) (r2 + p4) (-1 : Int32)).bind fun z26 =>
    match z26 with
    | (r26, N_26, (k_26, n_26)) =>
    some (r26, N_26, (k_26, n_26)))
    else
    some (p1, N, (k, n)))
    else
    if p2 ≠ 0 then
    ((fN_changed d N k n p3 (0 : Int32) (-1 : Int32) p2).bind fun z28 =>
    match z28 with
    | (r28, N_28, (k_28, n_28)) =>
    some (r28, N_28, (k_28, n_28)))
    else
    some (p3, N, (k, n))
set_option maxHeartbeats 4000000 in
set_option maxRecDepth 100000 in
theorem ok_fN_changed  : ∀ {d : Nat} {N : cN} {C : cC} {E : cE} {F : cF} {P : cP} {Q : cQ} {T : cT} {G : cG} {U : cU} {H : cH} {B : cB} {O : cO} {J : cJ} {V : cV} {Y : cY} {Z : cZ} {O9 : cO9} {k n : Nat} {p1 p2 p3 p4 : Int32} {rv : Int32} {N' : cN} {k' n' : Nat} (h : fN_changed d N k n p1 p2 p3 p4 = some (rv, N', (k', n'))) (D : Nat) (hD : d + 2 ≤ D), am_Call D 43 [.ref 1, .int p1, .int p2, .int p3, .int p4] (W9 N C E F P Q T G U H B O J V Y Z O9) k n (.inl (some (.int rv)), W9 N' C E F P Q T G U H B O J V Y Z O9, k', n') := by
  intro d
  induction d with
  | zero => intros; rename_i h _ _; cases h
  | succ d ih0 =>
    intro N C E F P Q T G U H B O J V Y Z O9 k n p1 p2 p3 p4 rv N' k' n' h D hD
    have ih := fun {N} {C} {E} {F} {P} {Q} {T} {G} {U} {H} {B} {O} {J} {V} {Y} {Z} {O9} {k} {n} {p1} {p2} {p3} {p4} {rv} {N'} {k'} {n'} h D hD => @ih0 N C E F P Q T G U H B O J V Y Z O9 k n p1 p2 p3 p4 rv N' k' n' h D hD
    unfold fN_changed at h
    obtain ⟨D, rfl⟩ : ∃ D', D = D' + 1 := ⟨D - 1, by omega⟩
    refine am_call_run (by decide) (by decide) rfl (Nat.le_of_ble_eq_true rfl) (by decide) (L := [(0, .ref 1), (1, .int p1), (2, .int p2), (3, .int p3), (4, .int p4)]) rfl ?_
    refine am_ev_st 2 (f' := (2, [(0, .ref 1), (1, .int p1), (2, .int p2), (3, .int p3), (4, .int p4)], [.int p1, .ref 1], (W9 N C E F P Q T G U H B O J V Y Z O9), k, n)) (g := True ∧ True ∧ True) (by with_unfolding_all rfl) ⟨trivial, trivial, trivial⟩ ?_
    replace h := Option.bind_eq_some_iff.mp h
    obtain ⟨r1, hc1, h⟩ := h
    try dsimp only at h
    refine am_ev_call (.invokevirtual 54) 28 2 346 [.ref 1, .int p1] [] rfl rfl rfl rfl (ok_fN_kindOf hc1 D (by omega)) rfl ?_
    refine am_ev_st 3 (f' := (9, [(5, .int r1), (0, .ref 1), (1, .int p1), (2, .int p2), (3, .int p3), (4, .int p4)], [.int p1, .ref 1], (W9 N C E F P Q T G U H B O J V Y Z O9), k, n)) (g := True ∧ True ∧ True ∧ True) (by with_unfolding_all rfl) ⟨trivial, trivial, trivial, trivial⟩ ?_
    replace h := Option.bind_eq_some_iff.mp h
    obtain ⟨r2, hc2, h⟩ := h
    try dsimp only at h
    refine am_ev_call (.invokevirtual 57) 29 2 347 [.ref 1, .int p1] [] rfl rfl rfl rfl (ok_fN_leftOf hc2 D (by omega)) rfl ?_
    refine am_ev_st 3 (f' := am_br (r1 ≠ 0) 74 16 [(6, .int r2), (5, .int r1), (0, .ref 1), (1, .int p1), (2, .int p2), (3, .int p3), (4, .int p4)] [] (W9 N C E F P Q T G U H B O J V Y Z O9) k n) (g := True ∧ True ∧ True ∧ True) (by with_unfolding_all rfl) ⟨trivial, trivial, trivial, trivial⟩ ?_
    by_cases c3 : r1 ≠ 0
    · rw [if_pos c3] at h
      refine am_ev_pos c3 ?_
      refine am_ev_st 1 (f' := (76, [(6, .int r2), (5, .int r1), (0, .ref 1), (1, .int p1), (2, .int p2), (3, .int p3), (4, .int p4)], [.int r1], (W9 N C E F P Q T G U H B O J V Y Z O9), k, n)) (g := True ∧ True) (by with_unfolding_all rfl) ⟨trivial, trivial⟩ ?_
      replace h := Option.bind_eq_some_iff.mp h
      obtain ⟨r4, hc4, h⟩ := h
      try dsimp only at h
      refine am_ev_call (.invokestatic 91) 71 3 530 [.int r1] [] rfl rfl rfl rfl (ok_fJ_hasParts hc4 D (by omega)) rfl ?_
      refine am_ev_st 1 (f' := am_br ((am_bz r4) ≠ 0) 84 79 [(6, .int r2), (5, .int r1), (0, .ref 1), (1, .int p1), (2, .int p2), (3, .int p3), (4, .int p4)] [] (W9 N C E F P Q T G U H B O J V Y Z O9) k n) (g := True ∧ True) (by with_unfolding_all rfl) ⟨trivial, trivial⟩ ?_
      by_cases c5 : (am_bz r4) ≠ 0
      · rw [if_pos c5] at h
        refine am_ev_pos c5 ?_
        refine am_ev_st 2 (f' := (86, [(6, .int r2), (5, .int r1), (0, .ref 1), (1, .int p1), (2, .int p2), (3, .int p3), (4, .int p4)], [.int p1, .ref 1], (W9 N C E F P Q T G U H B O J V Y Z O9), k, n)) (g := True ∧ True ∧ True) (by with_unfolding_all rfl) ⟨trivial, trivial, trivial⟩ ?_
        replace h := Option.bind_eq_some_iff.mp h
        obtain ⟨r6, hc6, h⟩ := h
        try dsimp only at h
        refine am_ev_call (.invokevirtual 60) 30 2 348 [.ref 1, .int p1] [] rfl rfl rfl rfl (ok_fN_rightOf hc6 D (by omega)) rfl ?_
        refine am_ev_st 6 (f' := (98, [(7, .int r6), (6, .int r2), (5, .int r1), (0, .ref 1), (1, .int p1), (2, .int p2), (3, .int p3), (4, .int p4)], [.int p4, .int p3, .int p2, .int r2, .ref 1], (W9 N C E F P Q T G U H B O J V Y Z O9), k, n)) (g := True ∧ True ∧ True ∧ True ∧ True ∧ True ∧ True) (by with_unfolding_all rfl) ⟨trivial, trivial, trivial, trivial, trivial, trivial, trivial⟩ ?_
        replace h := Option.bind_eq_some_iff.mp h
        obtain ⟨⟨r7, N_7, ⟨k_7, n_7⟩⟩, hc7, h⟩ := h
        try dsimp only at h
        refine am_ev_call (.invokevirtual 84) 43 8 528 [.ref 1, .int r2, .int p2, .int p3, .int p4] [] rfl rfl rfl rfl (ih hc7 D (by omega)) rfl ?_
        refine am_ev_st 6 (f' := am_br (r1 ≠ (4 : Int32)) 116 109 [(8, .int r7), (7, .int r6), (6, .int r2), (5, .int r1), (0, .ref 1), (1, .int p1), (2, .int p2), (3, .int p3), (4, .int p4)] [.int r6, .ref 1] (W9 N_7 C E F P Q T G U H B O J V Y Z O9) k_7 n_7) (g := True ∧ True ∧ True ∧ True ∧ True ∧ True ∧ True) (by with_unfolding_all rfl) ⟨trivial, trivial, trivial, trivial, trivial, trivial, trivial⟩ ?_
        by_cases c8 : r1 ≠ (4 : Int32)
        · rw [if_pos c8] at h
          refine am_ev_pos c8 ?_
          refine am_ev_st 5 (f' := (122, [(8, .int r7), (7, .int r6), (6, .int r2), (5, .int r1), (0, .ref 1), (1, .int p1), (2, .int p2), (3, .int p3), (4, .int p4)], [.int p4, .int p3, .int (p2 + (1 : Int32)), .int r6, .ref 1], (W9 N_7 C E F P Q T G U H B O J V Y Z O9), k_7, n_7)) (g := True ∧ True ∧ True ∧ True ∧ True ∧ True) (by with_unfolding_all rfl) ⟨trivial, trivial, trivial, trivial, trivial, trivial⟩ ?_
          replace h := Option.bind_eq_some_iff.mp h
          obtain ⟨⟨r9, N_9, ⟨k_9, n_9⟩⟩, hc9, h⟩ := h
          try dsimp only at h
          refine am_ev_call (.invokevirtual 84) 43 8 528 [.ref 1, .int r6, .int (p2 + (1 : Int32)), .int p3, .int p4] [] rfl rfl rfl rfl (ih hc9 D (by omega)) rfl ?_
          refine am_ev_st 4 (f' := am_br (r7 ≠ r2) 145 131 [(9, .int r9), (8, .int r7), (7, .int r6), (6, .int r2), (5, .int r1), (0, .ref 1), (1, .int p1), (2, .int p2), (3, .int p3), (4, .int p4)] [] (W9 N_9 C E F P Q T G U H B O J V Y Z O9) k_9 n_9) (g := True ∧ True ∧ True ∧ True ∧ True) (by with_unfolding_all rfl) ⟨trivial, trivial, trivial, trivial, trivial⟩ ?_
          by_cases c10 : r7 ≠ r2
          · rw [if_pos c10] at h
            refine am_ev_pos c10 ?_
            refine am_ev_st 4 (f' := (152, [(9, .int r9), (8, .int r7), (7, .int r6), (6, .int r2), (5, .int r1), (0, .ref 1), (1, .int p1), (2, .int p2), (3, .int p3), (4, .int p4)], [.int r9, .int r7, .int r1, .ref 1], (W9 N_9 C E F P Q T G U H B O J V Y Z O9), k_9, n_9)) (g := True ∧ True ∧ True ∧ True ∧ True) (by with_unfolding_all rfl) ⟨trivial, trivial, trivial, trivial, trivial⟩ ?_
            replace h := Option.bind_eq_some_iff.mp h
            obtain ⟨⟨r11, N_11, ⟨k_11, n_11⟩⟩, hc11, h⟩ := h
            try dsimp only at h
            refine am_ev_call (.invokevirtual 88) 38 6 529 [.ref 1, .int r1, .int r7, .int r9] [] rfl rfl rfl rfl (ok_fN_add hc11 D (by omega)) rfl ?_
            cases h
            exact am_ev_ret 0 0 0 rfl .int rfl rfl rfl
          · rw [if_neg c10] at h
            refine am_ev_neg c10 ?_
            refine am_ev_st 3 (f' := am_br (r9 ≠ r6) 145 138 [(9, .int r9), (8, .int r7), (7, .int r6), (6, .int r2), (5, .int r1), (0, .ref 1), (1, .int p1), (2, .int p2), (3, .int p3), (4, .int p4)] [] (W9 N_9 C E F P Q T G U H B O J V Y Z O9) k_9 n_9) (g := True ∧ True ∧ True ∧ True) (by with_unfolding_all rfl) ⟨trivial, trivial, trivial, trivial⟩ ?_
            by_cases c12 : r9 ≠ r6
            · rw [if_pos c12] at h
              refine am_ev_pos c12 ?_
              refine am_ev_st 4 (f' := (152, [(9, .int r9), (8, .int r7), (7, .int r6), (6, .int r2), (5, .int r1), (0, .ref 1), (1, .int p1), (2, .int p2), (3, .int p3), (4, .int p4)], [.int r9, .int r7, .int r1, .ref 1], (W9 N_9 C E F P Q T G U H B O J V Y Z O9), k_9, n_9)) (g := True ∧ True ∧ True ∧ True ∧ True) (by with_unfolding_all rfl) ⟨trivial, trivial, trivial, trivial, trivial⟩ ?_
              replace h := Option.bind_eq_some_iff.mp h
              obtain ⟨⟨r13, N_13, ⟨k_13, n_13⟩⟩, hc13, h⟩ := h
              try dsimp only at h
              refine am_ev_call (.invokevirtual 88) 38 6 529 [.ref 1, .int r1, .int r7, .int r9] [] rfl rfl rfl rfl (ok_fN_add hc13 D (by omega)) rfl ?_
              cases h
              exact am_ev_ret 0 0 0 rfl .int rfl rfl rfl
            · rw [if_neg c12] at h
              refine am_ev_neg c12 ?_
              refine am_ev_st 2 (f' := (155, [(9, .int r9), (8, .int r7), (7, .int r6), (6, .int r2), (5, .int r1), (0, .ref 1), (1, .int p1), (2, .int p2), (3, .int p3), (4, .int p4)], [.int p1], (W9 N_9 C E F P Q T G U H B O J V Y Z O9), k_9, n_9)) (g := True ∧ True ∧ True) (by with_unfolding_all rfl) ⟨trivial, trivial, trivial⟩ ?_
              cases h
              exact am_ev_ret 0 0 0 rfl .int rfl rfl rfl
        · rw [if_neg c8] at h
          refine am_ev_neg c8 ?_
          refine am_ev_st 4 (f' := (122, [(8, .int r7), (7, .int r6), (6, .int r2), (5, .int r1), (0, .ref 1), (1, .int p1), (2, .int p2), (3, .int p3), (4, .int p4)], [.int p4, .int p3, .int p2, .int r6, .ref 1], (W9 N_7 C E F P Q T G U H B O J V Y Z O9), k_7, n_7)) (g := True ∧ True ∧ True ∧ True ∧ True) (by with_unfolding_all rfl) ⟨trivial, trivial, trivial, trivial, trivial⟩ ?_
          replace h := Option.bind_eq_some_iff.mp h
          obtain ⟨⟨r14, N_14, ⟨k_14, n_14⟩⟩, hc14, h⟩ := h
          try dsimp only at h
          refine am_ev_call (.invokevirtual 84) 43 8 528 [.ref 1, .int r6, .int p2, .int p3, .int p4] [] rfl rfl rfl rfl (ih hc14 D (by omega)) rfl ?_
          refine am_ev_st 4 (f' := am_br (r7 ≠ r2) 145 131 [(9, .int r14), (8, .int r7), (7, .int r6), (6, .int r2), (5, .int r1), (0, .ref 1), (1, .int p1), (2, .int p2), (3, .int p3), (4, .int p4)] [] (W9 N_14 C E F P Q T G U H B O J V Y Z O9) k_14 n_14) (g := True ∧ True ∧ True ∧ True ∧ True) (by with_unfolding_all rfl) ⟨trivial, trivial, trivial, trivial, trivial⟩ ?_
          by_cases c15 : r7 ≠ r2
          · rw [if_pos c15] at h
            refine am_ev_pos c15 ?_
            refine am_ev_st 4 (f' := (152, [(9, .int r14), (8, .int r7), (7, .int r6), (6, .int r2), (5, .int r1), (0, .ref 1), (1, .int p1), (2, .int p2), (3, .int p3), (4, .int p4)], [.int r14, .int r7, .int r1, .ref 1], (W9 N_14 C E F P Q T G U H B O J V Y Z O9), k_14, n_14)) (g := True ∧ True ∧ True ∧ True ∧ True) (by with_unfolding_all rfl) ⟨trivial, trivial, trivial, trivial, trivial⟩ ?_
            replace h := Option.bind_eq_some_iff.mp h
            obtain ⟨⟨r16, N_16, ⟨k_16, n_16⟩⟩, hc16, h⟩ := h
            try dsimp only at h
            refine am_ev_call (.invokevirtual 88) 38 6 529 [.ref 1, .int r1, .int r7, .int r14] [] rfl rfl rfl rfl (ok_fN_add hc16 D (by omega)) rfl ?_
            cases h
            exact am_ev_ret 0 0 0 rfl .int rfl rfl rfl
          · rw [if_neg c15] at h
            refine am_ev_neg c15 ?_
            refine am_ev_st 3 (f' := am_br (r14 ≠ r6) 145 138 [(9, .int r14), (8, .int r7), (7, .int r6), (6, .int r2), (5, .int r1), (0, .ref 1), (1, .int p1), (2, .int p2), (3, .int p3), (4, .int p4)] [] (W9 N_14 C E F P Q T G U H B O J V Y Z O9) k_14 n_14) (g := True ∧ True ∧ True ∧ True) (by with_unfolding_all rfl) ⟨trivial, trivial, trivial, trivial⟩ ?_
            by_cases c17 : r14 ≠ r6
            · rw [if_pos c17] at h
              refine am_ev_pos c17 ?_
              refine am_ev_st 4 (f' := (152, [(9, .int r14), (8, .int r7), (7, .int r6), (6, .int r2), (5, .int r1), (0, .ref 1), (1, .int p1), (2, .int p2), (3, .int p3), (4, .int p4)], [.int r14, .int r7, .int r1, .ref 1], (W9 N_14 C E F P Q T G U H B O J V Y Z O9), k_14, n_14)) (g := True ∧ True ∧ True ∧ True ∧ True) (by with_unfolding_all rfl) ⟨trivial, trivial, trivial, trivial, trivial⟩ ?_
              replace h := Option.bind_eq_some_iff.mp h
              obtain ⟨⟨r18, N_18, ⟨k_18, n_18⟩⟩, hc18, h⟩ := h
              try dsimp only at h
              refine am_ev_call (.invokevirtual 88) 38 6 529 [.ref 1, .int r1, .int r7, .int r14] [] rfl rfl rfl rfl (ok_fN_add hc18 D (by omega)) rfl ?_
              cases h
              exact am_ev_ret 0 0 0 rfl .int rfl rfl rfl
            · rw [if_neg c17] at h
              refine am_ev_neg c17 ?_
              refine am_ev_st 2 (f' := (155, [(9, .int r14), (8, .int r7), (7, .int r6), (6, .int r2), (5, .int r1), (0, .ref 1), (1, .int p1), (2, .int p2), (3, .int p3), (4, .int p4)], [.int p1], (W9 N_14 C E F P Q T G U H B O J V Y Z O9), k_14, n_14)) (g := True ∧ True ∧ True) (by with_unfolding_all rfl) ⟨trivial, trivial, trivial⟩ ?_
              cases h
              exact am_ev_ret 0 0 0 rfl .int rfl rfl rfl
      · rw [if_neg c5] at h
        refine am_ev_neg c5 ?_
        refine am_ev_st 1 (f' := (83, [(6, .int r2), (5, .int r1), (0, .ref 1), (1, .int p1), (2, .int p2), (3, .int p3), (4, .int p4)], [.int p1], (W9 N C E F P Q T G U H B O J V Y Z O9), k, n)) (g := True ∧ True) (by with_unfolding_all rfl) ⟨trivial, trivial⟩ ?_
        cases h
        exact am_ev_ret 0 0 0 rfl .int rfl rfl rfl
    · rw [if_neg c3] at h
      refine am_ev_neg c3 ?_
      refine am_ev_st 3 (f' := am_br (p3 = (-1 : Int32)) 47 21 [(6, .int r2), (5, .int r1), (0, .ref 1), (1, .int p1), (2, .int p2), (3, .int p3), (4, .int p4)] [] (W9 N C E F P Q T G U H B O J V Y Z O9) k n) (g := True ∧ True ∧ True ∧ True) (by with_unfolding_all rfl) ⟨trivial, trivial, trivial, trivial⟩ ?_
      by_cases c19 : p3 = (-1 : Int32)
      · rw [if_pos c19] at h
        refine am_ev_pos c19 ?_
        refine am_ev_st 3 (f' := am_br (r2 < p2) 58 50 [(6, .int r2), (5, .int r1), (0, .ref 1), (1, .int p1), (2, .int p2), (3, .int p3), (4, .int p4)] [] (W9 N C E F P Q T G U H B O J V Y Z O9) k n) (g := True ∧ True ∧ True ∧ True) (by with_unfolding_all rfl) ⟨trivial, trivial, trivial, trivial⟩ ?_
        by_cases c20 : r2 < p2
        · rw [if_pos c20] at h
          refine am_ev_pos c20 ?_
          refine am_ev_st 2 (f' := (73, [(6, .int r2), (5, .int r1), (0, .ref 1), (1, .int p1), (2, .int p2), (3, .int p3), (4, .int p4)], [.int p1], (W9 N C E F P Q T G U H B O J V Y Z O9), k, n)) (g := True ∧ True ∧ True) (by with_unfolding_all rfl) ⟨trivial, trivial, trivial⟩ ?_
          cases h
          exact am_ev_ret 0 0 0 rfl .int rfl rfl rfl
        · rw [if_neg c20] at h
          refine am_ev_neg c20 ?_
          refine am_ev_st 2 (f' := am_br (p4 ≠ 0) 62 55 [(6, .int r2), (5, .int r1), (0, .ref 1), (1, .int p1), (2, .int p2), (3, .int p3), (4, .int p4)] [] (W9 N C E F P Q T G U H B O J V Y Z O9) k n) (g := True ∧ True ∧ True) (by with_unfolding_all rfl) ⟨trivial, trivial, trivial⟩ ?_
          by_cases c21 : p4 ≠ 0
          · rw [if_pos c21] at h
            refine am_ev_pos c21 ?_
            refine am_ev_st 6 (f' := (70, [(6, .int r2), (5, .int r1), (0, .ref 1), (1, .int p1), (2, .int p2), (3, .int p3), (4, .int p4)], [.int (-1 : Int32), .int (r2 + p4), .int (0 : Int32), .ref 1], (W9 N C E F P Q T G U H B O J V Y Z O9), k, n)) (g := True ∧ True ∧ True ∧ True ∧ True ∧ True ∧ True) (by with_unfolding_all rfl) ⟨trivial, trivial, trivial, trivial, trivial, trivial, trivial⟩ ?_
            replace h := Option.bind_eq_some_iff.mp h
            obtain ⟨⟨r22, N_22, ⟨k_22, n_22⟩⟩, hc22, h⟩ := h
            try dsimp only at h
            refine am_ev_call (.invokevirtual 88) 38 6 529 [.ref 1, .int (0 : Int32), .int (r2 + p4), .int (-1 : Int32)] [] rfl rfl rfl rfl (ok_fN_add hc22 D (by omega)) rfl ?_
            cases h
            exact am_ev_ret 0 0 0 rfl .int rfl rfl rfl
          · rw [if_neg c21] at h
            refine am_ev_neg c21 ?_
            refine am_ev_st 2 (f' := (73, [(6, .int r2), (5, .int r1), (0, .ref 1), (1, .int p1), (2, .int p2), (3, .int p3), (4, .int p4)], [.int p1], (W9 N C E F P Q T G U H B O J V Y Z O9), k, n)) (g := True ∧ True ∧ True) (by with_unfolding_all rfl) ⟨trivial, trivial, trivial⟩ ?_
            cases h
            exact am_ev_ret 0 0 0 rfl .int rfl rfl rfl
      · rw [if_neg c19] at h
        refine am_ev_neg c19 ?_
        refine am_ev_st 3 (f' := am_br (r2 ≠ p2) 47 27 [(6, .int r2), (5, .int r1), (0, .ref 1), (1, .int p1), (2, .int p2), (3, .int p3), (4, .int p4)] [] (W9 N C E F P Q T G U H B O J V Y Z O9) k n) (g := True ∧ True ∧ True ∧ True) (by with_unfolding_all rfl) ⟨trivial, trivial, trivial, trivial⟩ ?_
        by_cases c23 : r2 ≠ p2
        · rw [if_pos c23] at h
          refine am_ev_pos c23 ?_
          refine am_ev_st 3 (f' := am_br (r2 < p2) 58 50 [(6, .int r2), (5, .int r1), (0, .ref 1), (1, .int p1), (2, .int p2), (3, .int p3), (4, .int p4)] [] (W9 N C E F P Q T G U H B O J V Y Z O9) k n) (g := True ∧ True ∧ True ∧ True) (by with_unfolding_all rfl) ⟨trivial, trivial, trivial, trivial⟩ ?_
          by_cases c24 : r2 < p2
          · rw [if_pos c24] at h
            refine am_ev_pos c24 ?_
            refine am_ev_st 2 (f' := (73, [(6, .int r2), (5, .int r1), (0, .ref 1), (1, .int p1), (2, .int p2), (3, .int p3), (4, .int p4)], [.int p1], (W9 N C E F P Q T G U H B O J V Y Z O9), k, n)) (g := True ∧ True ∧ True) (by with_unfolding_all rfl) ⟨trivial, trivial, trivial⟩ ?_
            cases h
            exact am_ev_ret 0 0 0 rfl .int rfl rfl rfl
          · rw [if_neg c24] at h
            refine am_ev_neg c24 ?_
            refine am_ev_st 2 (f' := am_br (p4 ≠ 0) 62 55 [(6, .int r2), (5, .int r1), (0, .ref 1), (1, .int p1), (2, .int p2), (3, .int p3), (4, .int p4)] [] (W9 N C E F P Q T G U H B O J V Y Z O9) k n) (g := True ∧ True ∧ True) (by with_unfolding_all rfl) ⟨trivial, trivial, trivial⟩ ?_
            by_cases c25 : p4 ≠ 0
            · rw [if_pos c25] at h
              refine am_ev_pos c25 ?_
              refine am_ev_st 6 (f' := (70, [(6, .int r2), (5, .int r1), (0, .ref 1), (1, .int p1), (2, .int p2), (3, .int p3), (4, .int p4)], [.int (-1 : Int32), .int (r2 + p4), .int (0 : Int32), .ref 1], (W9 N C E F P Q T G U H B O J V Y Z O9), k, n)) (g := True ∧ True ∧ True ∧ True ∧ True ∧ True ∧ True) (by with_unfolding_all rfl) ⟨trivial, trivial, trivial, trivial, trivial, trivial, trivial⟩ ?_
              replace h := Option.bind_eq_some_iff.mp h
              obtain ⟨⟨r26, N_26, ⟨k_26, n_26⟩⟩, hc26, h⟩ := h
              try dsimp only at h
              refine am_ev_call (.invokevirtual 88) 38 6 529 [.ref 1, .int (0 : Int32), .int (r2 + p4), .int (-1 : Int32)] [] rfl rfl rfl rfl (ok_fN_add hc26 D (by omega)) rfl ?_
              cases h
              exact am_ev_ret 0 0 0 rfl .int rfl rfl rfl
            · rw [if_neg c25] at h
              refine am_ev_neg c25 ?_
              refine am_ev_st 2 (f' := (73, [(6, .int r2), (5, .int r1), (0, .ref 1), (1, .int p1), (2, .int p2), (3, .int p3), (4, .int p4)], [.int p1], (W9 N C E F P Q T G U H B O J V Y Z O9), k, n)) (g := True ∧ True ∧ True) (by with_unfolding_all rfl) ⟨trivial, trivial, trivial⟩ ?_
              cases h
              exact am_ev_ret 0 0 0 rfl .int rfl rfl rfl
        · rw [if_neg c23] at h
          refine am_ev_neg c23 ?_
          refine am_ev_st 2 (f' := am_br (p2 ≠ 0) 38 31 [(6, .int r2), (5, .int r1), (0, .ref 1), (1, .int p1), (2, .int p2), (3, .int p3), (4, .int p4)] [] (W9 N C E F P Q T G U H B O J V Y Z O9) k n) (g := True ∧ True ∧ True) (by with_unfolding_all rfl) ⟨trivial, trivial, trivial⟩ ?_
          by_cases c27 : p2 ≠ 0
          · rw [if_pos c27] at h
            refine am_ev_pos c27 ?_
            refine am_ev_st 5 (f' := (43, [(6, .int r2), (5, .int r1), (0, .ref 1), (1, .int p1), (2, .int p2), (3, .int p3), (4, .int p4)], [.int p2, .int (-1 : Int32), .int (0 : Int32), .int p3, .ref 1], (W9 N C E F P Q T G U H B O J V Y Z O9), k, n)) (g := True ∧ True ∧ True ∧ True ∧ True ∧ True) (by with_unfolding_all rfl) ⟨trivial, trivial, trivial, trivial, trivial, trivial⟩ ?_
            replace h := Option.bind_eq_some_iff.mp h
            obtain ⟨⟨r28, N_28, ⟨k_28, n_28⟩⟩, hc28, h⟩ := h
            try dsimp only at h
            refine am_ev_call (.invokevirtual 84) 43 8 528 [.ref 1, .int p3, .int (0 : Int32), .int (-1 : Int32), .int p2] [] rfl rfl rfl rfl (ih hc28 D (by omega)) rfl ?_
            cases h
            exact am_ev_ret 0 0 0 rfl .int rfl rfl rfl
          · rw [if_neg c27] at h
            refine am_ev_neg c27 ?_
            refine am_ev_st 2 (f' := (46, [(6, .int r2), (5, .int r1), (0, .ref 1), (1, .int p1), (2, .int p2), (3, .int p3), (4, .int p4)], [.int p3], (W9 N C E F P Q T G U H B O J V Y Z O9), k, n)) (g := True ∧ True ∧ True) (by with_unfolding_all rfl) ⟨trivial, trivial, trivial⟩ ?_
            cases h
            exact am_ev_ret 0 0 0 rfl .int rfl rfl rfl
def fF_typeOfVariable (d : Nat) (N : cN) (F : cF) (k n : Nat) (p1 : Int32) : Option (((Int32) ⊕ Nat) × cN × (Nat × Nat)) :=
  match F with
  | (tt, tc) =>
  if ((tc - (1 : Int32)) - p1) < 0 then
  (some (.inr 1, N, ((k + 1), (n + 6))))
  else
  if tc ≤ ((tc - (1 : Int32)) - p1) then
  (some (.inr 1, N, ((k + 1), (n + 6))))
  else
  if ((tc - (1 : Int32)) - p1) < (12 : Int32) then
  (if (((tc - (1 : Int32)) - p1) < 0 ∨ 12 ≤ (((tc - (1 : Int32)) - p1)).toNatClampNeg) then none else
  (fN_changed d N k n (tt (((tc - (1 : Int32)) - p1)).toNatClampNeg) (0 : Int32) (-1 : Int32) (p1 + (1 : Int32))).bind fun z5 =>
  match z5 with
  | (r5, N_5, (k_5, n_5)) =>
  some (.inl r5, N_5, (k_5, n_5)))
  else
  some (.inr 1, N, ((k + 1), (n + 6)))
set_option maxHeartbeats 4000000 in
set_option maxRecDepth 100000 in
theorem ok_fF_typeOfVariable {d : Nat} {N : cN} {C : cC} {E : cE} {F : cF} {P : cP} {Q : cQ} {T : cT} {G : cG} {U : cU} {H : cH} {B : cB} {O : cO} {J : cJ} {V : cV} {Y : cY} {Z : cZ} {O9 : cO9} {k n : Nat} {p1 : Int32} {rv : (Int32) ⊕ Nat} {N' : cN} {k' n' : Nat} (h : fF_typeOfVariable d N F k n p1 = some (rv, N', (k', n'))) (D : Nat) (hD : d + 3 ≤ D) : am_Call D 11 [.ref 13, .int p1] (W9 N C E F P Q T G U H B O J V Y Z O9) k n (am_oI rv, W9 N' C E F P Q T G U H B O J V Y Z O9, k', n') := by
  unfold fF_typeOfVariable at h
  obtain ⟨D, rfl⟩ : ∃ D', D = D' + 1 := ⟨D - 1, by omega⟩
  have hD : d + 2 ≤ D := by omega
  refine am_call_run (by decide) (by decide) rfl (Nat.le_of_ble_eq_true rfl) (by decide) (L := [(0, .ref 13), (1, .int p1)]) rfl ?_
  obtain ⟨tt, tc⟩ := F
  try dsimp only at h
  refine am_ev_st 9 (f' := am_br (((tc - (1 : Int32)) - p1) < 0) 27 10 [(2, .int ((tc - (1 : Int32)) - p1)), (0, .ref 13), (1, .int p1)] [] (W9 N C E (tt, tc) P Q T G U H B O J V Y Z O9) k n) (g := True ∧ True ∧ True ∧ True ∧ True ∧ True ∧ True ∧ True ∧ True ∧ True) (by with_unfolding_all rfl) ⟨trivial, trivial, trivial, trivial, trivial, trivial, trivial, trivial, trivial, trivial⟩ ?_
  by_cases c1 : ((tc - (1 : Int32)) - p1) < 0
  · rw [if_pos c1] at h
    refine am_ev_pos c1 ?_
    cases h
    exact am_ev_throw (.new 70) 1 1 508 rfl _ rfl rfl rfl rfl rfl rfl rfl
  · rw [if_neg c1] at h
    refine am_ev_neg c1 ?_
    refine am_ev_st 4 (f' := am_br (tc ≤ ((tc - (1 : Int32)) - p1)) 27 18 [(2, .int ((tc - (1 : Int32)) - p1)), (0, .ref 13), (1, .int p1)] [] (W9 N C E (tt, tc) P Q T G U H B O J V Y Z O9) k n) (g := True ∧ True ∧ True ∧ True ∧ True) (by with_unfolding_all rfl) ⟨trivial, trivial, trivial, trivial, trivial⟩ ?_
    by_cases c2 : tc ≤ ((tc - (1 : Int32)) - p1)
    · rw [if_pos c2] at h
      refine am_ev_pos c2 ?_
      cases h
      exact am_ev_throw (.new 70) 1 1 508 rfl _ rfl rfl rfl rfl rfl rfl rfl
    · rw [if_neg c2] at h
      refine am_ev_neg c2 ?_
      refine am_ev_st 3 (f' := am_br (((tc - (1 : Int32)) - p1) < (12 : Int32)) 37 24 [(2, .int ((tc - (1 : Int32)) - p1)), (0, .ref 13), (1, .int p1)] [] (W9 N C E (tt, tc) P Q T G U H B O J V Y Z O9) k n) (g := True ∧ True ∧ True ∧ True) (by with_unfolding_all rfl) ⟨trivial, trivial, trivial, trivial⟩ ?_
      by_cases c3 : ((tc - (1 : Int32)) - p1) < (12 : Int32)
      · rw [if_pos c3] at h
        refine am_ev_pos c3 ?_
        by_cases g4 : (((tc - (1 : Int32)) - p1) < 0 ∨ 12 ≤ (((tc - (1 : Int32)) - p1)).toNatClampNeg)
        · rw [if_pos g4] at h; cases h
        rw [if_neg g4] at h
        refine am_ev_st 11 (f' := (52, [(2, .int ((tc - (1 : Int32)) - p1)), (0, .ref 13), (1, .int p1)], [.int (p1 + (1 : Int32)), .int (-1 : Int32), .int (0 : Int32), .int (tt (((tc - (1 : Int32)) - p1)).toNatClampNeg), .ref 1], (W9 N C E (tt, tc) P Q T G U H B O J V Y Z O9), k, n)) (g := True ∧ True ∧ True ∧ True ∧ True ∧ vp_in (((tc - (1 : Int32)) - p1)) 12 ∧ True ∧ True ∧ True ∧ True ∧ True ∧ True) (by with_unfolding_all rfl) ⟨trivial, trivial, trivial, trivial, trivial, g4, trivial, trivial, trivial, trivial, trivial, trivial⟩ ?_
        replace h := Option.bind_eq_some_iff.mp h
        obtain ⟨⟨r5, N_5, ⟨k_5, n_5⟩⟩, hc5, h⟩ := h
        try dsimp only at h
        refine am_ev_call (.invokevirtual 79) 43 8 524 [.ref 1, .int (tt (((tc - (1 : Int32)) - p1)).toNatClampNeg), .int (0 : Int32), .int (-1 : Int32), .int (p1 + (1 : Int32))] [] rfl rfl rfl rfl (ok_fN_changed hc5 D (by omega)) rfl ?_
        cases h
        exact am_ev_ret 0 0 0 rfl .int rfl rfl rfl
      · rw [if_neg c3] at h
        refine am_ev_neg c3 ?_
        cases h
        exact am_ev_throw (.new 70) 1 1 508 rfl _ rfl rfl rfl rfl rfl rfl rfl
def fN_sizeOf (N : cN) (p1 : Int32) : Option (Int32) :=
  if p1 < 0 then
  (some (-1 : Int32))
  else
  match N with
  | (nK, nL, nR, nS, nD, cap, mt, le, en) =>
  if (Int32.ofNat cap) ≤ p1 then
  (some (-1 : Int32))
  else
  if (p1 < 0 ∨ cap ≤ (p1).toNatClampNeg) then none else
  some (nS (p1).toNatClampNeg)
set_option maxHeartbeats 4000000 in
set_option maxRecDepth 100000 in
theorem ok_fN_sizeOf  {N : cN} {C : cC} {E : cE} {F : cF} {P : cP} {Q : cQ} {T : cT} {G : cG} {U : cU} {H : cH} {B : cB} {O : cO} {J : cJ} {V : cV} {Y : cY} {Z : cZ} {O9 : cO9} {k n : Nat} {p1 : Int32} {rv : Int32} (h : fN_sizeOf N p1 = some rv) (D : Nat) (hD : 1 ≤ D) : am_Call D 31 [.ref 1, .int p1] (W9 N C E F P Q T G U H B O J V Y Z O9) k n (.inl (some (.int rv)), W9 N C E F P Q T G U H B O J V Y Z O9, k, n) := by
  unfold fN_sizeOf at h
  obtain ⟨D, rfl⟩ : ∃ D', D = D' + 1 := ⟨D - 1, by omega⟩
  have hD : 0 ≤ D := by omega
  refine am_call_run (by decide) (by decide) rfl (Nat.le_of_ble_eq_true rfl) (by decide) (L := [(0, .ref 1), (1, .int p1)]) rfl ?_
  refine am_ev_st 2 (f' := am_br (p1 < 0) 22 1 [(0, .ref 1), (1, .int p1)] [] (W9 N C E F P Q T G U H B O J V Y Z O9) k n) (g := True ∧ True ∧ True) (by with_unfolding_all rfl) ⟨trivial, trivial, trivial⟩ ?_
  by_cases c1 : p1 < 0
  · rw [if_pos c1] at h
    refine am_ev_pos c1 ?_
    refine am_ev_st 1 (f' := (23, [(0, .ref 1), (1, .int p1)], [.int (-1 : Int32)], (W9 N C E F P Q T G U H B O J V Y Z O9), k, n)) (g := True ∧ True) (by with_unfolding_all rfl) ⟨trivial, trivial⟩ ?_
    cases h
    exact am_ev_ret 0 0 0 rfl .int rfl rfl rfl
  · rw [if_neg c1] at h
    refine am_ev_neg c1 ?_
    obtain ⟨nK, nL, nR, nS, nD, cap, mt, le, en⟩ := N
    try dsimp only at h
    refine am_ev_st 5 (f' := am_br ((Int32.ofNat cap) ≤ p1) 22 10 [(0, .ref 1), (1, .int p1)] [] (W9 (nK, nL, nR, nS, nD, cap, mt, le, en) C E F P Q T G U H B O J V Y Z O9) k n) (g := True ∧ True ∧ True ∧ True ∧ True ∧ True) (by with_unfolding_all rfl) ⟨trivial, trivial, trivial, trivial, trivial, trivial⟩ ?_
    by_cases c2 : (Int32.ofNat cap) ≤ p1
    · rw [if_pos c2] at h
      refine am_ev_pos c2 ?_
      refine am_ev_st 1 (f' := (23, [(0, .ref 1), (1, .int p1)], [.int (-1 : Int32)], (W9 (nK, nL, nR, nS, nD, cap, mt, le, en) C E F P Q T G U H B O J V Y Z O9), k, n)) (g := True ∧ True) (by with_unfolding_all rfl) ⟨trivial, trivial⟩ ?_
      cases h
      exact am_ev_ret 0 0 0 rfl .int rfl rfl rfl
    · rw [if_neg c2] at h
      refine am_ev_neg c2 ?_
      by_cases g3 : (p1 < 0 ∨ cap ≤ (p1).toNatClampNeg)
      · rw [if_pos g3] at h; cases h
      rw [if_neg g3] at h
      refine am_ev_st 5 (f' := (23, [(0, .ref 1), (1, .int p1)], [.int (nS (p1).toNatClampNeg)], (W9 (nK, nL, nR, nS, nD, cap, mt, le, en) C E F P Q T G U H B O J V Y Z O9), k, n)) (g := True ∧ True ∧ True ∧ vp_in (p1) cap ∧ True ∧ True) (by with_unfolding_all rfl) ⟨trivial, trivial, trivial, g3, trivial, trivial⟩ ?_
      cases h
      exact am_ev_ret 0 0 0 rfl .int rfl rfl rfl
def fN_depthOf (N : cN) (p1 : Int32) : Option (Int32) :=
  if p1 < 0 then
  (some (-1 : Int32))
  else
  match N with
  | (nK, nL, nR, nS, nD, cap, mt, le, en) =>
  if (Int32.ofNat cap) ≤ p1 then
  (some (-1 : Int32))
  else
  if (p1 < 0 ∨ cap ≤ (p1).toNatClampNeg) then none else
  some (nD (p1).toNatClampNeg)
set_option maxHeartbeats 4000000 in
set_option maxRecDepth 100000 in
theorem ok_fN_depthOf  {N : cN} {C : cC} {E : cE} {F : cF} {P : cP} {Q : cQ} {T : cT} {G : cG} {U : cU} {H : cH} {B : cB} {O : cO} {J : cJ} {V : cV} {Y : cY} {Z : cZ} {O9 : cO9} {k n : Nat} {p1 : Int32} {rv : Int32} (h : fN_depthOf N p1 = some rv) (D : Nat) (hD : 1 ≤ D) : am_Call D 32 [.ref 1, .int p1] (W9 N C E F P Q T G U H B O J V Y Z O9) k n (.inl (some (.int rv)), W9 N C E F P Q T G U H B O J V Y Z O9, k, n) := by
  unfold fN_depthOf at h
  obtain ⟨D, rfl⟩ : ∃ D', D = D' + 1 := ⟨D - 1, by omega⟩
  have hD : 0 ≤ D := by omega
  refine am_call_run (by decide) (by decide) rfl (Nat.le_of_ble_eq_true rfl) (by decide) (L := [(0, .ref 1), (1, .int p1)]) rfl ?_
  refine am_ev_st 2 (f' := am_br (p1 < 0) 22 1 [(0, .ref 1), (1, .int p1)] [] (W9 N C E F P Q T G U H B O J V Y Z O9) k n) (g := True ∧ True ∧ True) (by with_unfolding_all rfl) ⟨trivial, trivial, trivial⟩ ?_
  by_cases c1 : p1 < 0
  · rw [if_pos c1] at h
    refine am_ev_pos c1 ?_
    refine am_ev_st 1 (f' := (23, [(0, .ref 1), (1, .int p1)], [.int (-1 : Int32)], (W9 N C E F P Q T G U H B O J V Y Z O9), k, n)) (g := True ∧ True) (by with_unfolding_all rfl) ⟨trivial, trivial⟩ ?_
    cases h
    exact am_ev_ret 0 0 0 rfl .int rfl rfl rfl
  · rw [if_neg c1] at h
    refine am_ev_neg c1 ?_
    obtain ⟨nK, nL, nR, nS, nD, cap, mt, le, en⟩ := N
    try dsimp only at h
    refine am_ev_st 5 (f' := am_br ((Int32.ofNat cap) ≤ p1) 22 10 [(0, .ref 1), (1, .int p1)] [] (W9 (nK, nL, nR, nS, nD, cap, mt, le, en) C E F P Q T G U H B O J V Y Z O9) k n) (g := True ∧ True ∧ True ∧ True ∧ True ∧ True) (by with_unfolding_all rfl) ⟨trivial, trivial, trivial, trivial, trivial, trivial⟩ ?_
    by_cases c2 : (Int32.ofNat cap) ≤ p1
    · rw [if_pos c2] at h
      refine am_ev_pos c2 ?_
      refine am_ev_st 1 (f' := (23, [(0, .ref 1), (1, .int p1)], [.int (-1 : Int32)], (W9 (nK, nL, nR, nS, nD, cap, mt, le, en) C E F P Q T G U H B O J V Y Z O9), k, n)) (g := True ∧ True) (by with_unfolding_all rfl) ⟨trivial, trivial⟩ ?_
      cases h
      exact am_ev_ret 0 0 0 rfl .int rfl rfl rfl
    · rw [if_neg c2] at h
      refine am_ev_neg c2 ?_
      by_cases g3 : (p1 < 0 ∨ cap ≤ (p1).toNatClampNeg)
      · rw [if_pos g3] at h; cases h
      rw [if_neg g3] at h
      refine am_ev_st 5 (f' := (23, [(0, .ref 1), (1, .int p1)], [.int (nD (p1).toNatClampNeg)], (W9 (nK, nL, nR, nS, nD, cap, mt, le, en) C E F P Q T G U H B O J V Y Z O9), k, n)) (g := True ∧ True ∧ True ∧ vp_in (p1) cap ∧ True ∧ True) (by with_unfolding_all rfl) ⟨trivial, trivial, trivial, g3, trivial, trivial⟩ ?_
      cases h
      exact am_ev_ret 0 0 0 rfl .int rfl rfl rfl
def fN_isTooMuch (N : cN) (p1 : Int32) : Option (Bool) :=
  (fN_sizeOf N p1).bind fun z1 =>
  match z1 with
  | (r1) =>
  if (60 : Int32) < r1 then
  (some true)
  else
  (fN_depthOf N p1).bind fun z3 =>
  match z3 with
  | (r3) =>
  if r3 ≤ (12 : Int32) then
  (some false)
  else
  some true
set_option maxHeartbeats 4000000 in
set_option maxRecDepth 100000 in
theorem ok_fN_isTooMuch  {N : cN} {C : cC} {E : cE} {F : cF} {P : cP} {Q : cQ} {T : cT} {G : cG} {U : cU} {H : cH} {B : cB} {O : cO} {J : cJ} {V : cV} {Y : cY} {Z : cZ} {O9 : cO9} {k n : Nat} {p1 : Int32} {rv : Bool} (h : fN_isTooMuch N p1 = some rv) (D : Nat) (hD : 2 ≤ D) : am_Call D 34 [.ref 1, .int p1] (W9 N C E F P Q T G U H B O J V Y Z O9) k n (.inl (some (.int (am_bz rv))), W9 N C E F P Q T G U H B O J V Y Z O9, k, n) := by
  unfold fN_isTooMuch at h
  obtain ⟨D, rfl⟩ : ∃ D', D = D' + 1 := ⟨D - 1, by omega⟩
  have hD : 1 ≤ D := by omega
  refine am_call_run (by decide) (by decide) rfl (Nat.le_of_ble_eq_true rfl) (by decide) (L := [(0, .ref 1), (1, .int p1)]) rfl ?_
  refine am_ev_st 2 (f' := (2, [(0, .ref 1), (1, .int p1)], [.int p1, .ref 1], (W9 N C E F P Q T G U H B O J V Y Z O9), k, n)) (g := True ∧ True ∧ True) (by with_unfolding_all rfl) ⟨trivial, trivial, trivial⟩ ?_
  replace h := Option.bind_eq_some_iff.mp h
  obtain ⟨r1, hc1, h⟩ := h
  try dsimp only at h
  refine am_ev_call (.invokevirtual 37) 31 2 231 [.ref 1, .int p1] [] rfl rfl rfl rfl (ok_fN_sizeOf hc1 D (by omega)) rfl ?_
  refine am_ev_st 2 (f' := am_br ((60 : Int32) < r1) 20 7 [(0, .ref 1), (1, .int p1)] [] (W9 N C E F P Q T G U H B O J V Y Z O9) k n) (g := True ∧ True ∧ True) (by with_unfolding_all rfl) ⟨trivial, trivial, trivial⟩ ?_
  by_cases c2 : (60 : Int32) < r1
  · rw [if_pos c2] at h
    refine am_ev_pos c2 ?_
    refine am_ev_st 2 (f' := (25, [(0, .ref 1), (1, .int p1)], [.int (1 : Int32)], (W9 N C E F P Q T G U H B O J V Y Z O9), k, n)) (g := True ∧ True ∧ True) (by with_unfolding_all rfl) ⟨trivial, trivial, trivial⟩ ?_
    cases h
    exact am_ev_ret 0 0 0 rfl .boolean rfl am_n1 rfl
  · rw [if_neg c2] at h
    refine am_ev_neg c2 ?_
    refine am_ev_st 2 (f' := (12, [(0, .ref 1), (1, .int p1)], [.int p1, .ref 1], (W9 N C E F P Q T G U H B O J V Y Z O9), k, n)) (g := True ∧ True ∧ True) (by with_unfolding_all rfl) ⟨trivial, trivial, trivial⟩ ?_
    replace h := Option.bind_eq_some_iff.mp h
    obtain ⟨r3, hc3, h⟩ := h
    try dsimp only at h
    refine am_ev_call (.invokevirtual 41) 32 2 235 [.ref 1, .int p1] [] rfl rfl rfl rfl (ok_fN_depthOf hc3 D (by omega)) rfl ?_
    refine am_ev_st 2 (f' := am_br (r3 ≤ (12 : Int32)) 24 17 [(0, .ref 1), (1, .int p1)] [] (W9 N C E F P Q T G U H B O J V Y Z O9) k n) (g := True ∧ True ∧ True) (by with_unfolding_all rfl) ⟨trivial, trivial, trivial⟩ ?_
    by_cases c4 : r3 ≤ (12 : Int32)
    · rw [if_pos c4] at h
      refine am_ev_pos c4 ?_
      refine am_ev_st 1 (f' := (25, [(0, .ref 1), (1, .int p1)], [.int (0 : Int32)], (W9 N C E F P Q T G U H B O J V Y Z O9), k, n)) (g := True ∧ True) (by with_unfolding_all rfl) ⟨trivial, trivial⟩ ?_
      cases h
      exact am_ev_ret 0 0 0 rfl .boolean rfl am_n0 rfl
    · rw [if_neg c4] at h
      refine am_ev_neg c4 ?_
      refine am_ev_st 2 (f' := (25, [(0, .ref 1), (1, .int p1)], [.int (1 : Int32)], (W9 N C E F P Q T G U H B O J V Y Z O9), k, n)) (g := True ∧ True ∧ True) (by with_unfolding_all rfl) ⟨trivial, trivial, trivial⟩ ?_
      cases h
      exact am_ev_ret 0 0 0 rfl .boolean rfl am_n1 rfl
def fN_withHead : Nat → cN → Nat → Nat → Int32 → Int32 → Int32 → Option (Int32 × cN × (Nat × Nat))
  | 0, _, _, _, _, _, _ => none
  | d + 1, N, k, n, p1, p2, p3 =>
    if p1 = p2 then
    (some (p3, N, (k, n)))
    else
    (fN_kindOf N p1).bind fun z2 =>
    match z2 with
    | (r2) =>
    if r2 = (4 : Int32) then
    ((fN_leftOf N p1).bind fun z4 =>
    match z4 with
    | (r4) =>
    (fN_withHead d N k n r4 p2 p3).bind fun z5 =>
    match z5 with
    | (r5, N_5, (k_5, n_5)) =>
    (fN_rightOf N_5 p1).bind fun z6 =>
    match z6 with
    | (r6) =>
    (fN_add N_5 k_5 n_5 (4 : Int32) r5 r6).bind fun z7 =>
    match z7 with
    | (r7, N_7, (k_7, n_7)) =>
    some (r7, N_7, (k_7, n_7)))
    else
    some (p3, N, (k, n))
set_option maxHeartbeats 4000000 in
set_option maxRecDepth 100000 in
theorem ok_fN_withHead  : ∀ {d : Nat} {N : cN} {C : cC} {E : cE} {F : cF} {P : cP} {Q : cQ} {T : cT} {G : cG} {U : cU} {H : cH} {B : cB} {O : cO} {J : cJ} {V : cV} {Y : cY} {Z : cZ} {O9 : cO9} {k n : Nat} {p1 p2 p3 : Int32} {rv : Int32} {N' : cN} {k' n' : Nat} (h : fN_withHead d N k n p1 p2 p3 = some (rv, N', (k', n'))) (D : Nat) (hD : d + 2 ≤ D), am_Call D 44 [.ref 1, .int p1, .int p2, .int p3] (W9 N C E F P Q T G U H B O J V Y Z O9) k n (.inl (some (.int rv)), W9 N' C E F P Q T G U H B O J V Y Z O9, k', n') := by
  intro d
  induction d with
  | zero => intros; rename_i h _ _; cases h
  | succ d ih0 =>
    intro N C E F P Q T G U H B O J V Y Z O9 k n p1 p2 p3 rv N' k' n' h D hD
    have ih := fun {N} {C} {E} {F} {P} {Q} {T} {G} {U} {H} {B} {O} {J} {V} {Y} {Z} {O9} {k} {n} {p1} {p2} {p3} {rv} {N'} {k'} {n'} h D hD => @ih0 N C E F P Q T G U H B O J V Y Z O9 k n p1 p2 p3 rv N' k' n' h D hD
    unfold fN_withHead at h
    obtain ⟨D, rfl⟩ : ∃ D', D = D' + 1 := ⟨D - 1, by omega⟩
    refine am_call_run (by decide) (by decide) rfl (Nat.le_of_ble_eq_true rfl) (by decide) (L := [(0, .ref 1), (1, .int p1), (2, .int p2), (3, .int p3)]) rfl ?_
    refine am_ev_st 3 (f' := am_br (p1 = p2) 14 2 [(0, .ref 1), (1, .int p1), (2, .int p2), (3, .int p3)] [] (W9 N C E F P Q T G U H B O J V Y Z O9) k n) (g := True ∧ True ∧ True ∧ True) (by with_unfolding_all rfl) ⟨trivial, trivial, trivial, trivial⟩ ?_
    by_cases c1 : p1 = p2
    · rw [if_pos c1] at h
      refine am_ev_pos c1 ?_
      refine am_ev_st 1 (f' := (15, [(0, .ref 1), (1, .int p1), (2, .int p2), (3, .int p3)], [.int p3], (W9 N C E F P Q T G U H B O J V Y Z O9), k, n)) (g := True ∧ True) (by with_unfolding_all rfl) ⟨trivial, trivial⟩ ?_
      cases h
      exact am_ev_ret 0 0 0 rfl .int rfl rfl rfl
    · rw [if_neg c1] at h
      refine am_ev_neg c1 ?_
      refine am_ev_st 2 (f' := (7, [(0, .ref 1), (1, .int p1), (2, .int p2), (3, .int p3)], [.int p1, .ref 1], (W9 N C E F P Q T G U H B O J V Y Z O9), k, n)) (g := True ∧ True ∧ True) (by with_unfolding_all rfl) ⟨trivial, trivial, trivial⟩ ?_
      replace h := Option.bind_eq_some_iff.mp h
      obtain ⟨r2, hc2, h⟩ := h
      try dsimp only at h
      refine am_ev_call (.invokevirtual 54) 28 2 346 [.ref 1, .int p1] [] rfl rfl rfl rfl (ok_fN_kindOf hc2 D (by omega)) rfl ?_
      refine am_ev_st 2 (f' := am_br (r2 = (4 : Int32)) 16 11 [(0, .ref 1), (1, .int p1), (2, .int p2), (3, .int p3)] [] (W9 N C E F P Q T G U H B O J V Y Z O9) k n) (g := True ∧ True ∧ True) (by with_unfolding_all rfl) ⟨trivial, trivial, trivial⟩ ?_
      by_cases c3 : r2 = (4 : Int32)
      · rw [if_pos c3] at h
        refine am_ev_pos c3 ?_
        refine am_ev_st 5 (f' := (21, [(0, .ref 1), (1, .int p1), (2, .int p2), (3, .int p3)], [.int p1, .ref 1, .ref 1, .int (4 : Int32), .ref 1], (W9 N C E F P Q T G U H B O J V Y Z O9), k, n)) (g := True ∧ True ∧ True ∧ True ∧ True ∧ True) (by with_unfolding_all rfl) ⟨trivial, trivial, trivial, trivial, trivial, trivial⟩ ?_
        replace h := Option.bind_eq_some_iff.mp h
        obtain ⟨r4, hc4, h⟩ := h
        try dsimp only at h
        refine am_ev_call (.invokevirtual 57) 29 2 347 [.ref 1, .int p1] [.ref 1, .int (4 : Int32), .ref 1] rfl rfl rfl rfl (ok_fN_leftOf hc4 D (by omega)) rfl ?_
        refine am_ev_st 2 (f' := (26, [(0, .ref 1), (1, .int p1), (2, .int p2), (3, .int p3)], [.int p3, .int p2, .int r4, .ref 1, .int (4 : Int32), .ref 1], (W9 N C E F P Q T G U H B O J V Y Z O9), k, n)) (g := True ∧ True ∧ True) (by with_unfolding_all rfl) ⟨trivial, trivial, trivial⟩ ?_
        replace h := Option.bind_eq_some_iff.mp h
        obtain ⟨⟨r5, N_5, ⟨k_5, n_5⟩⟩, hc5, h⟩ := h
        try dsimp only at h
        refine am_ev_call (.invokevirtual 95) 44 6 562 [.ref 1, .int r4, .int p2, .int p3] [.int (4 : Int32), .ref 1] rfl rfl rfl rfl (ih hc5 D (by omega)) rfl ?_
        refine am_ev_st 2 (f' := (31, [(0, .ref 1), (1, .int p1), (2, .int p2), (3, .int p3)], [.int p1, .ref 1, .int r5, .int (4 : Int32), .ref 1], (W9 N_5 C E F P Q T G U H B O J V Y Z O9), k_5, n_5)) (g := True ∧ True ∧ True) (by with_unfolding_all rfl) ⟨trivial, trivial, trivial⟩ ?_
        replace h := Option.bind_eq_some_iff.mp h
        obtain ⟨r6, hc6, h⟩ := h
        try dsimp only at h
        refine am_ev_call (.invokevirtual 60) 30 2 348 [.ref 1, .int p1] [.int r5, .int (4 : Int32), .ref 1] rfl rfl rfl rfl (ok_fN_rightOf hc6 D (by omega)) rfl ?_
        replace h := Option.bind_eq_some_iff.mp h
        obtain ⟨⟨r7, N_7, ⟨k_7, n_7⟩⟩, hc7, h⟩ := h
        try dsimp only at h
        refine am_ev_call (.invokevirtual 88) 38 6 529 [.ref 1, .int (4 : Int32), .int r5, .int r6] [] rfl rfl rfl rfl (ok_fN_add hc7 D (by omega)) rfl ?_
        cases h
        exact am_ev_ret 0 0 0 rfl .int rfl rfl rfl
      · rw [if_neg c3] at h
        refine am_ev_neg c3 ?_
        refine am_ev_st 1 (f' := (15, [(0, .ref 1), (1, .int p1), (2, .int p2), (3, .int p3)], [.int p3], (W9 N C E F P Q T G U H B O J V Y Z O9), k, n)) (g := True ∧ True) (by with_unfolding_all rfl) ⟨trivial, trivial⟩ ?_
        cases h
        exact am_ev_ret 0 0 0 rfl .int rfl rfl rfl
def fC_isThere (C : cC) (p1 : Int32) : Option (Bool) :=
  if p1 < 0 then
  (some false)
  else
  match C with
  | (ct, cb, cm) =>
  if cm ≤ p1 then
  (some false)
  else
  if (16 : Int32) ≤ p1 then
  (some false)
  else
  some true
set_option maxHeartbeats 4000000 in
set_option maxRecDepth 100000 in
theorem ok_fC_isThere  {N : cN} {C : cC} {E : cE} {F : cF} {P : cP} {Q : cQ} {T : cT} {G : cG} {U : cU} {H : cH} {B : cB} {O : cO} {J : cJ} {V : cV} {Y : cY} {Z : cZ} {O9 : cO9} {k n : Nat} {p1 : Int32} {rv : Bool} (h : fC_isThere C p1 = some rv) (D : Nat) (hD : 1 ≤ D) : am_Call D 3 [.ref 7, .int p1] (W9 N C E F P Q T G U H B O J V Y Z O9) k n (.inl (some (.int (am_bz rv))), W9 N C E F P Q T G U H B O J V Y Z O9, k, n) := by
  unfold fC_isThere at h
  obtain ⟨D, rfl⟩ : ∃ D', D = D' + 1 := ⟨D - 1, by omega⟩
  have hD : 0 ≤ D := by omega
  refine am_call_run (by decide) (by decide) rfl (Nat.le_of_ble_eq_true rfl) (by decide) (L := [(0, .ref 7), (1, .int p1)]) rfl ?_
  refine am_ev_st 2 (f' := am_br (p1 < 0) 22 1 [(0, .ref 7), (1, .int p1)] [] (W9 N C E F P Q T G U H B O J V Y Z O9) k n) (g := True ∧ True ∧ True) (by with_unfolding_all rfl) ⟨trivial, trivial, trivial⟩ ?_
  by_cases c1 : p1 < 0
  · rw [if_pos c1] at h
    refine am_ev_pos c1 ?_
    refine am_ev_st 1 (f' := (23, [(0, .ref 7), (1, .int p1)], [.int (0 : Int32)], (W9 N C E F P Q T G U H B O J V Y Z O9), k, n)) (g := True ∧ True) (by with_unfolding_all rfl) ⟨trivial, trivial⟩ ?_
    cases h
    exact am_ev_ret 0 0 0 rfl .boolean rfl am_n0 rfl
  · rw [if_neg c1] at h
    refine am_ev_neg c1 ?_
    obtain ⟨ct, cb, cm⟩ := C
    try dsimp only at h
    refine am_ev_st 4 (f' := am_br (cm ≤ p1) 22 9 [(0, .ref 7), (1, .int p1)] [] (W9 N (ct, cb, cm) E F P Q T G U H B O J V Y Z O9) k n) (g := True ∧ True ∧ True ∧ True ∧ True) (by with_unfolding_all rfl) ⟨trivial, trivial, trivial, trivial, trivial⟩ ?_
    by_cases c2 : cm ≤ p1
    · rw [if_pos c2] at h
      refine am_ev_pos c2 ?_
      refine am_ev_st 1 (f' := (23, [(0, .ref 7), (1, .int p1)], [.int (0 : Int32)], (W9 N (ct, cb, cm) E F P Q T G U H B O J V Y Z O9), k, n)) (g := True ∧ True) (by with_unfolding_all rfl) ⟨trivial, trivial⟩ ?_
      cases h
      exact am_ev_ret 0 0 0 rfl .boolean rfl am_n0 rfl
    · rw [if_neg c2] at h
      refine am_ev_neg c2 ?_
      refine am_ev_st 3 (f' := am_br ((16 : Int32) ≤ p1) 22 15 [(0, .ref 7), (1, .int p1)] [] (W9 N (ct, cb, cm) E F P Q T G U H B O J V Y Z O9) k n) (g := True ∧ True ∧ True ∧ True) (by with_unfolding_all rfl) ⟨trivial, trivial, trivial, trivial⟩ ?_
      by_cases c3 : (16 : Int32) ≤ p1
      · rw [if_pos c3] at h
        refine am_ev_pos c3 ?_
        refine am_ev_st 1 (f' := (23, [(0, .ref 7), (1, .int p1)], [.int (0 : Int32)], (W9 N (ct, cb, cm) E F P Q T G U H B O J V Y Z O9), k, n)) (g := True ∧ True) (by with_unfolding_all rfl) ⟨trivial, trivial⟩ ?_
        cases h
        exact am_ev_ret 0 0 0 rfl .boolean rfl am_n0 rfl
      · rw [if_neg c3] at h
        refine am_ev_neg c3 ?_
        refine am_ev_st 2 (f' := (23, [(0, .ref 7), (1, .int p1)], [.int (1 : Int32)], (W9 N (ct, cb, cm) E F P Q T G U H B O J V Y Z O9), k, n)) (g := True ∧ True ∧ True) (by with_unfolding_all rfl) ⟨trivial, trivial, trivial⟩ ?_
        cases h
        exact am_ev_ret 0 0 0 rfl .boolean rfl am_n1 rfl
def fC_bodyAt (C : cC) (p1 : Int32) : Option (Int32) :=
  (fC_isThere C p1).bind fun z1 =>
  match z1 with
  | (r1) =>
  if (am_bz r1) = 0 then
  (some (-1 : Int32))
  else
  match C with
  | (ct, cb, cm) =>
  if (p1 < 0 ∨ 16 ≤ (p1).toNatClampNeg) then none else
  some (cb (p1).toNatClampNeg)
set_option maxHeartbeats 4000000 in
set_option maxRecDepth 100000 in
theorem ok_fC_bodyAt  {N : cN} {C : cC} {E : cE} {F : cF} {P : cP} {Q : cQ} {T : cT} {G : cG} {U : cU} {H : cH} {B : cB} {O : cO} {J : cJ} {V : cV} {Y : cY} {Z : cZ} {O9 : cO9} {k n : Nat} {p1 : Int32} {rv : Int32} (h : fC_bodyAt C p1 = some rv) (D : Nat) (hD : 2 ≤ D) : am_Call D 5 [.ref 7, .int p1] (W9 N C E F P Q T G U H B O J V Y Z O9) k n (.inl (some (.int rv)), W9 N C E F P Q T G U H B O J V Y Z O9, k, n) := by
  unfold fC_bodyAt at h
  obtain ⟨D, rfl⟩ : ∃ D', D = D' + 1 := ⟨D - 1, by omega⟩
  have hD : 1 ≤ D := by omega
  refine am_call_run (by decide) (by decide) rfl (Nat.le_of_ble_eq_true rfl) (by decide) (L := [(0, .ref 7), (1, .int p1)]) rfl ?_
  refine am_ev_st 2 (f' := (2, [(0, .ref 7), (1, .int p1)], [.int p1, .ref 7], (W9 N C E F P Q T G U H B O J V Y Z O9), k, n)) (g := True ∧ True ∧ True) (by with_unfolding_all rfl) ⟨trivial, trivial, trivial⟩ ?_
  replace h := Option.bind_eq_some_iff.mp h
  obtain ⟨r1, hc1, h⟩ := h
  try dsimp only at h
  refine am_ev_call (.invokevirtual 22) 3 2 292 [.ref 7, .int p1] [] rfl rfl rfl rfl (ok_fC_isThere hc1 D (by omega)) rfl ?_
  refine am_ev_st 1 (f' := am_br ((am_bz r1) = 0) 17 5 [(0, .ref 7), (1, .int p1)] [] (W9 N C E F P Q T G U H B O J V Y Z O9) k n) (g := True ∧ True) (by with_unfolding_all rfl) ⟨trivial, trivial⟩ ?_
  by_cases c2 : (am_bz r1) = 0
  · rw [if_pos c2] at h
    refine am_ev_pos c2 ?_
    refine am_ev_st 1 (f' := (18, [(0, .ref 7), (1, .int p1)], [.int (-1 : Int32)], (W9 N C E F P Q T G U H B O J V Y Z O9), k, n)) (g := True ∧ True) (by with_unfolding_all rfl) ⟨trivial, trivial⟩ ?_
    cases h
    exact am_ev_ret 0 0 0 rfl .int rfl rfl rfl
  · rw [if_neg c2] at h
    refine am_ev_neg c2 ?_
    obtain ⟨ct, cb, cm⟩ := C
    try dsimp only at h
    by_cases g3 : (p1 < 0 ∨ 16 ≤ (p1).toNatClampNeg)
    · rw [if_pos g3] at h; cases h
    rw [if_neg g3] at h
    refine am_ev_st 5 (f' := (18, [(0, .ref 7), (1, .int p1)], [.int (cb (p1).toNatClampNeg)], (W9 N (ct, cb, cm) E F P Q T G U H B O J V Y Z O9), k, n)) (g := True ∧ True ∧ True ∧ vp_in (p1) 16 ∧ True ∧ True) (by with_unfolding_all rfl) ⟨trivial, trivial, trivial, g3, trivial, trivial⟩ ?_
    cases h
    exact am_ev_ret 0 0 0 rfl .int rfl rfl rfl
