def fM_write_Q (d : Nat) (N : cN) (Q : cQ) (p2 : Int32) : Option (Int32 × cQ) :=
  match Q with
  | (qr, ql, qx) =>
  (fM_writeNode_Q d N (qr, (0 : Int32), qx) p2).bind fun z1 =>
  match z1 with
  | (Q_1) =>
  match Q_1 with
  | (qr_1, ql_1, qx_1) =>
  some (ql_1, Q_1)
set_option maxHeartbeats 4000000 in
set_option maxRecDepth 100000 in
theorem ok_fM_write_Q {d : Nat} {N : cN} {C : cC} {E : cE} {F : cF} {P : cP} {Q : cQ} {k n : Nat} {p2 : Int32} {rv : Int32} {Q' : cQ} (h : fM_write_Q d N Q p2 = some (rv, Q')) (D : Nat) (hD : d + 2 ≤ D) : am_Call D 21 [.ref 17, .ref 1, .int p2] (W9 N C E F P Q) k n (.inl (some (.int rv)), W9 N C E F P Q', k, n) := by
  unfold fM_write_Q at h
  obtain ⟨D, rfl⟩ : ∃ D', D = D' + 1 := ⟨D - 1, by omega⟩
  have hD : d + 1 ≤ D := by omega
  refine am_call_run (by decide) (by decide) rfl (Nat.le_of_ble_eq_true rfl) (by decide) (L := [(0, .ref 17), (1, .ref 1), (2, .int p2)]) rfl ?_
  obtain ⟨qr, ql, qx⟩ := Q
  try dsimp only at h
  refine am_ev_st 6 (f' := (8, [(0, .ref 17), (1, .ref 1), (2, .int p2)], [.int p2, .ref 1, .ref 17], (W9 N C E F P (qr, (0 : Int32), qx)), k, n)) (g := True ∧ True ∧ True ∧ True ∧ True ∧ True ∧ True) (by with_unfolding_all rfl) ⟨trivial, trivial, trivial, trivial, trivial, trivial, trivial⟩ ?_
  replace h := Option.bind_eq_some_iff.mp h
  obtain ⟨Q_1, hc1, h⟩ := h
  try dsimp only at h
  refine am_ev_call (.invokevirtual 26) 22 4 256 [.ref 17, .ref 1, .int p2] [] rfl rfl rfl rfl (ok_fM_writeNode_Q hc1 D (by omega)) rfl ?_
  obtain ⟨qr_1, ql_1, qx_1⟩ := Q_1
  try dsimp only at h
  refine am_ev_st 2 (f' := (15, [(0, .ref 17), (1, .ref 1), (2, .int p2)], [.int ql_1], (W9 N C E F P (qr_1, ql_1, qx_1)), k, n)) (g := True ∧ True ∧ True) (by with_unfolding_all rfl) ⟨trivial, trivial, trivial⟩ ?_
  cases h
  exact am_ev_ret 0 0 0 rfl .int rfl rfl rfl
def fC_add (C : cC) (p1 p2 : Int32) : Option (Int32 × cC) :=
  match C with
  | (ct, cb, cm) =>
  if cm < 0 then
  (some ((-1 : Int32), C))
  else
  if cm < (16 : Int32) then
  (if (cm < 0 ∨ 16 ≤ (cm).toNatClampNeg) then none else
  if (cm < 0 ∨ 16 ≤ (cm).toNatClampNeg) then none else
  some (((cm + (1 : Int32)) - (1 : Int32)), ((upd ct (cm).toNatClampNeg p1), (upd cb (cm).toNatClampNeg p2), (cm + (1 : Int32)))))
  else
  some ((-1 : Int32), C)
set_option maxHeartbeats 4000000 in
set_option maxRecDepth 100000 in
theorem ok_fC_add  {N : cN} {C : cC} {E : cE} {F : cF} {P : cP} {Q : cQ} {k n : Nat} {p1 p2 : Int32} {rv : Int32} {C' : cC} (h : fC_add C p1 p2 = some (rv, C')) (D : Nat) (hD : 1 ≤ D) : am_Call D 6 [.ref 7, .int p1, .int p2] (W9 N C E F P Q) k n (.inl (some (.int rv)), W9 N C' E F P Q, k, n) := by
  unfold fC_add at h
  obtain ⟨D, rfl⟩ : ∃ D', D = D' + 1 := ⟨D - 1, by omega⟩
  have hD : 0 ≤ D := by omega
  refine am_call_run (by decide) (by decide) rfl (Nat.le_of_ble_eq_true rfl) (by decide) (L := [(0, .ref 7), (1, .int p1), (2, .int p2)]) rfl ?_
  obtain ⟨ct, cb, cm⟩ := C
  try dsimp only at h
  refine am_ev_st 3 (f' := am_br (cm < 0) 16 4 [(0, .ref 7), (1, .int p1), (2, .int p2)] [] (W9 N (ct, cb, cm) E F P Q) k n) (g := True ∧ True ∧ True ∧ True) (by with_unfolding_all rfl) ⟨trivial, trivial, trivial, trivial⟩ ?_
  by_cases c1 : cm < 0
  · rw [if_pos c1] at h
    refine am_ev_pos c1 ?_
    refine am_ev_st 1 (f' := (17, [(0, .ref 7), (1, .int p1), (2, .int p2)], [.int (-1 : Int32)], (W9 N (ct, cb, cm) E F P Q), k, n)) (g := True ∧ True) (by with_unfolding_all rfl) ⟨trivial, trivial⟩ ?_
    cases h
    exact am_ev_ret 0 0 0 rfl .int rfl rfl rfl
  · rw [if_neg c1] at h
    refine am_ev_neg c1 ?_
    refine am_ev_st 4 (f' := am_br (cm < (16 : Int32)) 18 13 [(0, .ref 7), (1, .int p1), (2, .int p2)] [] (W9 N (ct, cb, cm) E F P Q) k n) (g := True ∧ True ∧ True ∧ True ∧ True) (by with_unfolding_all rfl) ⟨trivial, trivial, trivial, trivial, trivial⟩ ?_
    by_cases c2 : cm < (16 : Int32)
    · rw [if_pos c2] at h
      refine am_ev_pos c2 ?_
      by_cases g3 : (cm < 0 ∨ 16 ≤ (cm).toNatClampNeg)
      · rw [if_pos g3] at h; cases h
      rw [if_neg g3] at h
      by_cases g4 : (cm < 0 ∨ 16 ≤ (cm).toNatClampNeg)
      · rw [if_pos g4] at h; cases h
      rw [if_neg g4] at h
      refine am_ev_st 22 (f' := (54, [(0, .ref 7), (1, .int p1), (2, .int p2)], [.int ((cm + (1 : Int32)) - (1 : Int32))], (W9 N ((upd ct (cm).toNatClampNeg p1), (upd cb (cm).toNatClampNeg p2), (cm + (1 : Int32))) E F P Q), k, n)) (g := True ∧ True ∧ True ∧ True ∧ True ∧ vp_in (cm) 16 ∧ True ∧ True ∧ True ∧ True ∧ True ∧ vp_in (cm) 16 ∧ True ∧ True ∧ True ∧ True ∧ True ∧ True ∧ True ∧ True ∧ True ∧ True ∧ True) (by with_unfolding_all rfl) ⟨trivial, trivial, trivial, trivial, trivial, g3, trivial, trivial, trivial, trivial, trivial, g4, trivial, trivial, trivial, trivial, trivial, trivial, trivial, trivial, trivial, trivial, trivial⟩ ?_
      cases h
      exact am_ev_ret 0 0 0 rfl .int rfl rfl rfl
    · rw [if_neg c2] at h
      refine am_ev_neg c2 ?_
      refine am_ev_st 1 (f' := (17, [(0, .ref 7), (1, .int p1), (2, .int p2)], [.int (-1 : Int32)], (W9 N (ct, cb, cm) E F P Q), k, n)) (g := True ∧ True) (by with_unfolding_all rfl) ⟨trivial, trivial⟩ ?_
      cases h
      exact am_ev_ret 0 0 0 rfl .int rfl rfl rfl
def fJ_refuseUnlooked (E : cE) : Option (Int32 × cE) :=
  (fE_refuel E (0 : Int32)).bind fun z1 =>
  match z1 with
  | (E_1) =>
  some ((-1 : Int32), E_1)
set_option maxHeartbeats 4000000 in
set_option maxRecDepth 100000 in
theorem ok_fJ_refuseUnlooked  {N : cN} {C : cC} {E : cE} {F : cF} {P : cP} {Q : cQ} {k n : Nat} {rv : Int32} {E' : cE} (h : fJ_refuseUnlooked E = some (rv, E')) (D : Nat) (hD : 2 ≤ D) : am_Call D 72 [.ref 0] (W9 N C E F P Q) k n (.inl (some (.int rv)), W9 N C E' F P Q, k, n) := by
  unfold fJ_refuseUnlooked at h
  obtain ⟨D, rfl⟩ : ∃ D', D = D' + 1 := ⟨D - 1, by omega⟩
  have hD : 1 ≤ D := by omega
  refine am_call_run (by decide) (by decide) rfl (Nat.le_of_ble_eq_true rfl) (by decide) (L := [(0, .ref 0)]) rfl ?_
  refine am_ev_st 3 (f' := (5, [(0, .ref 0)], [.int (0 : Int32), .ref 10], (W9 N C E F P Q), k, n)) (g := True ∧ True ∧ True ∧ True) (by with_unfolding_all rfl) ⟨trivial, trivial, trivial, trivial⟩ ?_
  replace h := Option.bind_eq_some_iff.mp h
  obtain ⟨E_1, hc1, h⟩ := h
  try dsimp only at h
  refine am_ev_call (.invokevirtual 167) 46 2 444 [.ref 10, .int (0 : Int32)] [] rfl rfl rfl rfl (ok_fE_refuel hc1 D (by omega)) rfl ?_
  refine am_ev_st 1 (f' := (9, [(0, .ref 0)], [.int (-1 : Int32)], (W9 N C E_1 F P Q), k, n)) (g := True ∧ True) (by with_unfolding_all rfl) ⟨trivial, trivial⟩ ?_
  cases h
  exact am_ev_ret 0 0 0 rfl .int rfl rfl rfl
def fM_readNode_Q (fl : Nat) : Nat → cN → cQ → Nat → Nat → Int32 → Option (Int32 × cN × cQ × (Nat × Nat))
  | 0, _, _, _, _, _ => none
  | d + 1, N, Q, k, n, p2 =>
    match Q with
    | (qr, ql, qx) =>
    (fM_at_Q Q qx).bind fun z1 =>
    match z1 with
    | (r1) =>
    if r1 ≠ (-1 : Int32) then
    ((fJ_hasParts (r1 - r1 / (10 : Int32) * (10 : Int32))).bind fun z3 =>
    match z3 with
    | (r3) =>
    if (am_bz r3) = 0 then
    (if p2 = 0 then
    ((fN_add N k n (r1 - r1 / (10 : Int32) * (10 : Int32)) (r1 / (10 : Int32)) (-1 : Int32)).bind fun z6 =>
    match z6 with
    | (r6, N_6, (k_6, n_6)) =>
    some (r6, N_6, (qr, ql, (qx + (1 : Int32))), (k_6, n_6)))
    else
    (fN_termLike fl N (r1 - r1 / (10 : Int32) * (10 : Int32)) (r1 / (10 : Int32)) (-1 : Int32)).bind fun z7 =>
    match z7 with
    | (r7, N_7) =>
    some (r7, N_7, (qr, ql, (qx + (1 : Int32))), (k, n)))
    else
    (fM_readNode_Q fl d N (qr, ql, (qx + (1 : Int32))) k n p2).bind fun z8 =>
    match z8 with
    | (r8, N_8, Q_8, (k_8, n_8)) =>
    if r8 ≠ (-1 : Int32) then
    ((fM_readNode_Q fl d N_8 Q_8 k_8 n_8 p2).bind fun z10 =>
    match z10 with
    | (r10, N_10, Q_10, (k_10, n_10)) =>
    if r10 ≠ (-1 : Int32) then
    (if p2 = 0 then
    ((fN_add N_10 k_10 n_10 (r1 - r1 / (10 : Int32) * (10 : Int32)) r8 r10).bind fun z13 =>
    match z13 with
    | (r13, N_13, (k_13, n_13)) =>
    some (r13, N_13, Q_10, (k_13, n_13)))
    else
    (fN_termLike fl N_10 (r1 - r1 / (10 : Int32) * (10 : Int32)) r8 r10).bind fun z14 =>
    match z14 with
    | (r14, N_14) =>
    some (r14, N_14, Q_10, (k_10, n_10)))
    else
    some ((-1 : Int32), N_10, Q_10, (k_10, n_10)))
    else
    some ((-1 : Int32), N_8, Q_8, (k_8, n_8)))
    else
    some ((-1 : Int32), N, Q, (k, n))
set_option maxHeartbeats 4000000 in
set_option maxRecDepth 100000 in
theorem ok_fM_readNode_Q {fl : Nat} : ∀ {d : Nat} {N : cN} {C : cC} {E : cE} {F : cF} {P : cP} {Q : cQ} {k n : Nat} {p2 : Int32} {rv : Int32} {N' : cN} {Q' : cQ} {k' n' : Nat} (h : fM_readNode_Q fl d N Q k n p2 = some (rv, N', Q', (k', n'))) (D : Nat) (hD : d + 3 ≤ D), am_Call D 24 [.ref 17, .ref 1, .int p2] (W9 N C E F P Q) k n (.inl (some (.int rv)), W9 N' C E F P Q', k', n') := by
  intro d
  induction d with
  | zero => intros; rename_i h _ _; cases h
  | succ d ih0 =>
    intro N C E F P Q k n p2 rv N' Q' k' n' h D hD
    have ih := fun {N} {C} {E} {F} {P} {Q} {k} {n} {p2} {rv} {N'} {Q'} {k'} {n'} h D hD => @ih0 N C E F P Q k n p2 rv N' Q' k' n' h D hD
    unfold fM_readNode_Q at h
    obtain ⟨D, rfl⟩ : ∃ D', D = D' + 1 := ⟨D - 1, by omega⟩
    refine am_call_run (by decide) (by decide) rfl (Nat.le_of_ble_eq_true rfl) (by decide) (L := [(0, .ref 17), (1, .ref 1), (2, .int p2)]) rfl ?_
    obtain ⟨qr, ql, qx⟩ := Q
    try dsimp only at h
    refine am_ev_st 3 (f' := (5, [(0, .ref 17), (1, .ref 1), (2, .int p2)], [.int qx, .ref 17], (W9 N C E F P (qr, ql, qx)), k, n)) (g := True ∧ True ∧ True ∧ True) (by with_unfolding_all rfl) ⟨trivial, trivial, trivial, trivial⟩ ?_
    replace h := Option.bind_eq_some_iff.mp h
    obtain ⟨r1, hc1, h⟩ := h
    try dsimp only at h
    refine am_ev_call (.invokevirtual 22) 19 2 285 [.ref 17, .int qx] [] rfl rfl rfl rfl (ok_fM_at_Q hc1 D (by omega)) rfl ?_
    refine am_ev_st 4 (f' := am_br (r1 ≠ (-1 : Int32)) 16 11 [(3, .int r1), (0, .ref 17), (1, .ref 1), (2, .int p2)] [] (W9 N C E F P (qr, ql, qx)) k n) (g := True ∧ True ∧ True ∧ True ∧ True) (by with_unfolding_all rfl) ⟨trivial, trivial, trivial, trivial, trivial⟩ ?_
    by_cases c2 : r1 ≠ (-1 : Int32)
    · rw [if_pos c2] at h
      refine am_ev_pos c2 ?_
      refine am_ev_st 17 (f' := (43, [(6, .int (-1 : Int32)), (5, .int (r1 / (10 : Int32))), (4, .int (r1 - r1 / (10 : Int32) * (10 : Int32))), (3, .int r1), (0, .ref 17), (1, .ref 1), (2, .int p2)], [.int (r1 - r1 / (10 : Int32) * (10 : Int32))], (W9 N C E F P (qr, ql, (qx + (1 : Int32)))), k, n)) (g := True ∧ True ∧ True ∧ True ∧ True ∧ True ∧ True ∧ True ∧ ¬ ((10 : Int32) = 0) ∧ True ∧ True ∧ True ∧ ¬ ((10 : Int32) = 0) ∧ True ∧ True ∧ True ∧ True ∧ True) (by with_unfolding_all rfl) ⟨trivial, trivial, trivial, trivial, trivial, trivial, trivial, trivial, by decide, trivial, trivial, trivial, by decide, trivial, trivial, trivial, trivial, trivial⟩ ?_
      replace h := Option.bind_eq_some_iff.mp h
      obtain ⟨r3, hc3, h⟩ := h
      try dsimp only at h
      refine am_ev_call (.invokestatic 35) 69 3 264 [.int (r1 - r1 / (10 : Int32) * (10 : Int32))] [] rfl rfl rfl rfl (ok_fJ_hasParts hc3 D (by omega)) rfl ?_
      refine am_ev_st 1 (f' := am_br ((am_bz r3) = 0) 83 46 [(6, .int (-1 : Int32)), (5, .int (r1 / (10 : Int32))), (4, .int (r1 - r1 / (10 : Int32) * (10 : Int32))), (3, .int r1), (0, .ref 17), (1, .ref 1), (2, .int p2)] [] (W9 N C E F P (qr, ql, (qx + (1 : Int32)))) k n) (g := True ∧ True) (by with_unfolding_all rfl) ⟨trivial, trivial⟩ ?_
      by_cases c4 : (am_bz r3) = 0
      · rw [if_pos c4] at h
        refine am_ev_pos c4 ?_
        refine am_ev_st 2 (f' := am_br (p2 = 0) 100 84 [(6, .int (-1 : Int32)), (5, .int (r1 / (10 : Int32))), (4, .int (r1 - r1 / (10 : Int32) * (10 : Int32))), (3, .int r1), (0, .ref 17), (1, .ref 1), (2, .int p2)] [] (W9 N C E F P (qr, ql, (qx + (1 : Int32)))) k n) (g := True ∧ True ∧ True) (by with_unfolding_all rfl) ⟨trivial, trivial, trivial⟩ ?_
        by_cases c5 : p2 = 0
        · rw [if_pos c5] at h
          refine am_ev_pos c5 ?_
          refine am_ev_st 4 (f' := (107, [(6, .int (-1 : Int32)), (5, .int (r1 / (10 : Int32))), (4, .int (r1 - r1 / (10 : Int32) * (10 : Int32))), (3, .int r1), (0, .ref 17), (1, .ref 1), (2, .int p2)], [.int (-1 : Int32), .int (r1 / (10 : Int32)), .int (r1 - r1 / (10 : Int32) * (10 : Int32)), .ref 1], (W9 N C E F P (qr, ql, (qx + (1 : Int32)))), k, n)) (g := True ∧ True ∧ True ∧ True ∧ True) (by with_unfolding_all rfl) ⟨trivial, trivial, trivial, trivial, trivial⟩ ?_
          replace h := Option.bind_eq_some_iff.mp h
          obtain ⟨⟨r6, N_6, ⟨k_6, n_6⟩⟩, hc6, h⟩ := h
          try dsimp only at h
          refine am_ev_call (.invokevirtual 53) 38 6 305 [.ref 1, .int (r1 - r1 / (10 : Int32) * (10 : Int32)), .int (r1 / (10 : Int32)), .int (-1 : Int32)] [] rfl rfl rfl rfl (ok_fN_add hc6 D (by omega)) rfl ?_
          cases h
          exact am_ev_ret 0 0 0 rfl .int rfl rfl rfl
        · rw [if_neg c5] at h
          refine am_ev_neg c5 ?_
          refine am_ev_st 4 (f' := (94, [(6, .int (-1 : Int32)), (5, .int (r1 / (10 : Int32))), (4, .int (r1 - r1 / (10 : Int32) * (10 : Int32))), (3, .int r1), (0, .ref 17), (1, .ref 1), (2, .int p2)], [.int (-1 : Int32), .int (r1 / (10 : Int32)), .int (r1 - r1 / (10 : Int32) * (10 : Int32)), .ref 1], (W9 N C E F P (qr, ql, (qx + (1 : Int32)))), k, n)) (g := True ∧ True ∧ True ∧ True ∧ True) (by with_unfolding_all rfl) ⟨trivial, trivial, trivial, trivial, trivial⟩ ?_
          replace h := Option.bind_eq_some_iff.mp h
          obtain ⟨⟨r7, N_7⟩, hc7, h⟩ := h
          try dsimp only at h
          refine am_ev_call (.invokevirtual 49) 36 6 297 [.ref 1, .int (r1 - r1 / (10 : Int32) * (10 : Int32)), .int (r1 / (10 : Int32)), .int (-1 : Int32)] [] rfl rfl rfl rfl (ok_fN_termLike hc7 D (by omega)) rfl ?_
          refine am_ev_st 1 (f' := (110, [(6, .int (-1 : Int32)), (5, .int (r1 / (10 : Int32))), (4, .int (r1 - r1 / (10 : Int32) * (10 : Int32))), (3, .int r1), (0, .ref 17), (1, .ref 1), (2, .int p2)], [.int r7], (W9 N_7 C E F P (qr, ql, (qx + (1 : Int32)))), k, n)) (g := True ∧ True) (by with_unfolding_all rfl) ⟨trivial, trivial⟩ ?_
          cases h
          exact am_ev_ret 0 0 0 rfl .int rfl rfl rfl
      · rw [if_neg c4] at h
        refine am_ev_neg c4 ?_
        refine am_ev_st 3 (f' := (52, [(6, .int (-1 : Int32)), (5, .int (r1 / (10 : Int32))), (4, .int (r1 - r1 / (10 : Int32) * (10 : Int32))), (3, .int r1), (0, .ref 17), (1, .ref 1), (2, .int p2)], [.int p2, .ref 1, .ref 17], (W9 N C E F P (qr, ql, (qx + (1 : Int32)))), k, n)) (g := True ∧ True ∧ True ∧ True) (by with_unfolding_all rfl) ⟨trivial, trivial, trivial, trivial⟩ ?_
        replace h := Option.bind_eq_some_iff.mp h
        obtain ⟨⟨r8, N_8, Q_8, ⟨k_8, n_8⟩⟩, hc8, h⟩ := h
        try dsimp only at h
        refine am_ev_call (.invokevirtual 45) 24 4 293 [.ref 17, .ref 1, .int p2] [] rfl rfl rfl rfl (ih hc8 D (by omega)) rfl ?_
        refine am_ev_st 4 (f' := am_br (r8 ≠ (-1 : Int32)) 67 60 [(5, .int r8), (6, .int (-1 : Int32)), (4, .int (r1 - r1 / (10 : Int32) * (10 : Int32))), (3, .int r1), (0, .ref 17), (1, .ref 1), (2, .int p2)] [] (W9 N_8 C E F P Q_8) k_8 n_8) (g := True ∧ True ∧ True ∧ True ∧ True) (by with_unfolding_all rfl) ⟨trivial, trivial, trivial, trivial, trivial⟩ ?_
        by_cases c9 : r8 ≠ (-1 : Int32)
        · rw [if_pos c9] at h
          refine am_ev_pos c9 ?_
          refine am_ev_st 3 (f' := (70, [(5, .int r8), (6, .int (-1 : Int32)), (4, .int (r1 - r1 / (10 : Int32) * (10 : Int32))), (3, .int r1), (0, .ref 17), (1, .ref 1), (2, .int p2)], [.int p2, .ref 1, .ref 17], (W9 N_8 C E F P Q_8), k_8, n_8)) (g := True ∧ True ∧ True ∧ True) (by with_unfolding_all rfl) ⟨trivial, trivial, trivial, trivial⟩ ?_
          replace h := Option.bind_eq_some_iff.mp h
          obtain ⟨⟨r10, N_10, Q_10, ⟨k_10, n_10⟩⟩, hc10, h⟩ := h
          try dsimp only at h
          refine am_ev_call (.invokevirtual 45) 24 4 293 [.ref 17, .ref 1, .int p2] [] rfl rfl rfl rfl (ih hc10 D (by omega)) rfl ?_
          refine am_ev_st 4 (f' := am_br (r10 ≠ (-1 : Int32)) 83 78 [(6, .int r10), (5, .int r8), (4, .int (r1 - r1 / (10 : Int32) * (10 : Int32))), (3, .int r1), (0, .ref 17), (1, .ref 1), (2, .int p2)] [] (W9 N_10 C E F P Q_10) k_10 n_10) (g := True ∧ True ∧ True ∧ True ∧ True) (by with_unfolding_all rfl) ⟨trivial, trivial, trivial, trivial, trivial⟩ ?_
          by_cases c11 : r10 ≠ (-1 : Int32)
          · rw [if_pos c11] at h
            refine am_ev_pos c11 ?_
            refine am_ev_st 2 (f' := am_br (p2 = 0) 100 84 [(6, .int r10), (5, .int r8), (4, .int (r1 - r1 / (10 : Int32) * (10 : Int32))), (3, .int r1), (0, .ref 17), (1, .ref 1), (2, .int p2)] [] (W9 N_10 C E F P Q_10) k_10 n_10) (g := True ∧ True ∧ True) (by with_unfolding_all rfl) ⟨trivial, trivial, trivial⟩ ?_
            by_cases c12 : p2 = 0
            · rw [if_pos c12] at h
              refine am_ev_pos c12 ?_
              refine am_ev_st 4 (f' := (107, [(6, .int r10), (5, .int r8), (4, .int (r1 - r1 / (10 : Int32) * (10 : Int32))), (3, .int r1), (0, .ref 17), (1, .ref 1), (2, .int p2)], [.int r10, .int r8, .int (r1 - r1 / (10 : Int32) * (10 : Int32)), .ref 1], (W9 N_10 C E F P Q_10), k_10, n_10)) (g := True ∧ True ∧ True ∧ True ∧ True) (by with_unfolding_all rfl) ⟨trivial, trivial, trivial, trivial, trivial⟩ ?_
              replace h := Option.bind_eq_some_iff.mp h
              obtain ⟨⟨r13, N_13, ⟨k_13, n_13⟩⟩, hc13, h⟩ := h
              try dsimp only at h
              refine am_ev_call (.invokevirtual 53) 38 6 305 [.ref 1, .int (r1 - r1 / (10 : Int32) * (10 : Int32)), .int r8, .int r10] [] rfl rfl rfl rfl (ok_fN_add hc13 D (by omega)) rfl ?_
              cases h
              exact am_ev_ret 0 0 0 rfl .int rfl rfl rfl
            · rw [if_neg c12] at h
              refine am_ev_neg c12 ?_
              refine am_ev_st 4 (f' := (94, [(6, .int r10), (5, .int r8), (4, .int (r1 - r1 / (10 : Int32) * (10 : Int32))), (3, .int r1), (0, .ref 17), (1, .ref 1), (2, .int p2)], [.int r10, .int r8, .int (r1 - r1 / (10 : Int32) * (10 : Int32)), .ref 1], (W9 N_10 C E F P Q_10), k_10, n_10)) (g := True ∧ True ∧ True ∧ True ∧ True) (by with_unfolding_all rfl) ⟨trivial, trivial, trivial, trivial, trivial⟩ ?_
              replace h := Option.bind_eq_some_iff.mp h
              obtain ⟨⟨r14, N_14⟩, hc14, h⟩ := h
              try dsimp only at h
              refine am_ev_call (.invokevirtual 49) 36 6 297 [.ref 1, .int (r1 - r1 / (10 : Int32) * (10 : Int32)), .int r8, .int r10] [] rfl rfl rfl rfl (ok_fN_termLike hc14 D (by omega)) rfl ?_
              refine am_ev_st 1 (f' := (110, [(6, .int r10), (5, .int r8), (4, .int (r1 - r1 / (10 : Int32) * (10 : Int32))), (3, .int r1), (0, .ref 17), (1, .ref 1), (2, .int p2)], [.int r14], (W9 N_14 C E F P Q_10), k_10, n_10)) (g := True ∧ True) (by with_unfolding_all rfl) ⟨trivial, trivial⟩ ?_
              cases h
              exact am_ev_ret 0 0 0 rfl .int rfl rfl rfl
          · rw [if_neg c11] at h
            refine am_ev_neg c11 ?_
            refine am_ev_st 1 (f' := (82, [(6, .int r10), (5, .int r8), (4, .int (r1 - r1 / (10 : Int32) * (10 : Int32))), (3, .int r1), (0, .ref 17), (1, .ref 1), (2, .int p2)], [.int (-1 : Int32)], (W9 N_10 C E F P Q_10), k_10, n_10)) (g := True ∧ True) (by with_unfolding_all rfl) ⟨trivial, trivial⟩ ?_
            cases h
            exact am_ev_ret 0 0 0 rfl .int rfl rfl rfl
        · rw [if_neg c9] at h
          refine am_ev_neg c9 ?_
          refine am_ev_st 6 (f' := am_br ((-1 : Int32) ≠ (-1 : Int32)) 83 78 [(6, .int (-1 : Int32)), (5, .int r8), (4, .int (r1 - r1 / (10 : Int32) * (10 : Int32))), (3, .int r1), (0, .ref 17), (1, .ref 1), (2, .int p2)] [] (W9 N_8 C E F P Q_8) k_8 n_8) (g := True ∧ True ∧ True ∧ True ∧ True ∧ True ∧ True) (by with_unfolding_all rfl) ⟨trivial, trivial, trivial, trivial, trivial, trivial, trivial⟩ ?_
          refine am_ev_neg (by decide) ?_
          refine am_ev_st 1 (f' := (82, [(6, .int (-1 : Int32)), (5, .int r8), (4, .int (r1 - r1 / (10 : Int32) * (10 : Int32))), (3, .int r1), (0, .ref 17), (1, .ref 1), (2, .int p2)], [.int (-1 : Int32)], (W9 N_8 C E F P Q_8), k_8, n_8)) (g := True ∧ True) (by with_unfolding_all rfl) ⟨trivial, trivial⟩ ?_
          cases h
          exact am_ev_ret 0 0 0 rfl .int rfl rfl rfl
    · rw [if_neg c2] at h
      refine am_ev_neg c2 ?_
      refine am_ev_st 1 (f' := (15, [(3, .int r1), (0, .ref 17), (1, .ref 1), (2, .int p2)], [.int (-1 : Int32)], (W9 N C E F P (qr, ql, qx)), k, n)) (g := True ∧ True) (by with_unfolding_all rfl) ⟨trivial, trivial⟩ ?_
      cases h
      exact am_ev_ret 0 0 0 rfl .int rfl rfl rfl
def fM_read_Q (fl : Nat) (d : Nat) (N : cN) (Q : cQ) (k n : Nat) (p2 : Int32) : Option (Int32 × cN × cQ × (Nat × Nat)) :=
  match Q with
  | (qr, ql, qx) =>
  (fM_readNode_Q fl d N (qr, ql, (0 : Int32)) k n p2).bind fun z1 =>
  match z1 with
  | (r1, N_1, Q_1, (k_1, n_1)) =>
  some (r1, N_1, Q_1, (k_1, n_1))
set_option maxHeartbeats 4000000 in
set_option maxRecDepth 100000 in
theorem ok_fM_read_Q {fl d : Nat} {N : cN} {C : cC} {E : cE} {F : cF} {P : cP} {Q : cQ} {k n : Nat} {p2 : Int32} {rv : Int32} {N' : cN} {Q' : cQ} {k' n' : Nat} (h : fM_read_Q fl d N Q k n p2 = some (rv, N', Q', (k', n'))) (D : Nat) (hD : d + 4 ≤ D) : am_Call D 23 [.ref 17, .ref 1, .int p2] (W9 N C E F P Q) k n (.inl (some (.int rv)), W9 N' C E F P Q', k', n') := by
  unfold fM_read_Q at h
  obtain ⟨D, rfl⟩ : ∃ D', D = D' + 1 := ⟨D - 1, by omega⟩
  have hD : d + 3 ≤ D := by omega
  refine am_call_run (by decide) (by decide) rfl (Nat.le_of_ble_eq_true rfl) (by decide) (L := [(0, .ref 17), (1, .ref 1), (2, .int p2)]) rfl ?_
  obtain ⟨qr, ql, qx⟩ := Q
  try dsimp only at h
  refine am_ev_st 6 (f' := (8, [(0, .ref 17), (1, .ref 1), (2, .int p2)], [.int p2, .ref 1, .ref 17], (W9 N C E F P (qr, ql, (0 : Int32))), k, n)) (g := True ∧ True ∧ True ∧ True ∧ True ∧ True ∧ True) (by with_unfolding_all rfl) ⟨trivial, trivial, trivial, trivial, trivial, trivial, trivial⟩ ?_
  replace h := Option.bind_eq_some_iff.mp h
  obtain ⟨⟨r1, N_1, Q_1, ⟨k_1, n_1⟩⟩, hc1, h⟩ := h
  try dsimp only at h
  refine am_ev_call (.invokevirtual 45) 24 4 293 [.ref 17, .ref 1, .int p2] [] rfl rfl rfl rfl (ok_fM_readNode_Q hc1 D (by omega)) rfl ?_
  cases h
  exact am_ev_ret 0 0 0 rfl .int rfl rfl rfl
def fN_keepPassing (N : cN) : Option (cN) :=
  match N with
  | (nK, nL, nR, nS, nD, cap, mt, le, en) =>
  some (nK, nL, nR, nS, nD, cap, mt, en, en)
set_option maxHeartbeats 4000000 in
set_option maxRecDepth 100000 in
theorem ok_fN_keepPassing  {N : cN} {C : cC} {E : cE} {F : cF} {P : cP} {Q : cQ} {k n : Nat} {N' : cN} (h : fN_keepPassing N = some N') (D : Nat) (hD : 1 ≤ D) : am_Call D 42 [.ref 1] (W9 N C E F P Q) k n (.inl none, W9 N' C E F P Q, k, n) := by
  unfold fN_keepPassing at h
  obtain ⟨D, rfl⟩ : ∃ D', D = D' + 1 := ⟨D - 1, by omega⟩
  have hD : 0 ≤ D := by omega
  refine am_call_run (by decide) (by decide) rfl (Nat.le_of_ble_eq_true rfl) (by decide) (L := [(0, .ref 1)]) rfl ?_
  obtain ⟨nK, nL, nR, nS, nD, cap, mt, le, en⟩ := N
  try dsimp only at h
  refine am_ev_st 4 (f' := (8, [(0, .ref 1)], [], (W9 (nK, nL, nR, nS, nD, cap, mt, en, en) C E F P Q), k, n)) (g := True ∧ True ∧ True ∧ True ∧ True) (by with_unfolding_all rfl) ⟨trivial, trivial, trivial, trivial, trivial⟩ ?_
  cases h
  exact am_ev_vret 0 0 0 rfl rfl rfl
def fJ_lasting (fl : Nat) (d : Nat) (N : cN) (Q : cQ) (k n : Nat) : Option (Int32 × cN × cQ × (Nat × Nat)) :=
  (fN_dropPassing N).bind fun z1 =>
  match z1 with
  | (N_1) =>
  (fM_read_Q fl d N_1 Q k n (0 : Int32)).bind fun z2 =>
  match z2 with
  | (r2, N_2, Q_2, (k_2, n_2)) =>
  (fN_keepPassing N_2).bind fun z3 =>
  match z3 with
  | (N_3) =>
  some (r2, N_3, Q_2, (k_2, n_2))
set_option maxHeartbeats 4000000 in
set_option maxRecDepth 100000 in
theorem ok_fJ_lasting {fl d : Nat} {N : cN} {C : cC} {E : cE} {F : cF} {P : cP} {Q : cQ} {k n : Nat} {rv : Int32} {N' : cN} {Q' : cQ} {k' n' : Nat} (h : fJ_lasting fl d N Q k n = some (rv, N', Q', (k', n'))) (D : Nat) (hD : d + 5 ≤ D) : am_Call D 73 [.ref 0, .ref 17] (W9 N C E F P Q) k n (.inl (some (.int rv)), W9 N' C E F P Q', k', n') := by
  unfold fJ_lasting at h
  obtain ⟨D, rfl⟩ : ∃ D', D = D' + 1 := ⟨D - 1, by omega⟩
  have hD : d + 4 ≤ D := by omega
  refine am_call_run (by decide) (by decide) rfl (Nat.le_of_ble_eq_true rfl) (by decide) (L := [(0, .ref 0), (1, .ref 17)]) rfl ?_
  refine am_ev_st 2 (f' := (4, [(0, .ref 0), (1, .ref 17)], [.ref 1], (W9 N C E F P Q), k, n)) (g := True ∧ True ∧ True) (by with_unfolding_all rfl) ⟨trivial, trivial, trivial⟩ ?_
  replace h := Option.bind_eq_some_iff.mp h
  obtain ⟨N_1, hc1, h⟩ := h
  try dsimp only at h
  refine am_ev_call (.invokevirtual 164) 41 0 440 [.ref 1] [] rfl rfl rfl rfl (ok_fN_dropPassing hc1 D (by omega)) rfl ?_
  refine am_ev_st 4 (f' := (13, [(0, .ref 0), (1, .ref 17)], [.int (0 : Int32), .ref 1, .ref 17], (W9 N_1 C E F P Q), k, n)) (g := True ∧ True ∧ True ∧ True ∧ True) (by with_unfolding_all rfl) ⟨trivial, trivial, trivial, trivial, trivial⟩ ?_
  replace h := Option.bind_eq_some_iff.mp h
  obtain ⟨⟨r2, N_2, Q_2, ⟨k_2, n_2⟩⟩, hc2, h⟩ := h
  try dsimp only at h
  refine am_ev_call (.invokevirtual 143) 23 4 289 [.ref 17, .ref 1, .int (0 : Int32)] [] rfl rfl rfl rfl (ok_fM_read_Q hc2 D (by omega)) rfl ?_
  refine am_ev_st 3 (f' := (21, [(2, .int r2), (0, .ref 0), (1, .ref 17)], [.ref 1], (W9 N_2 C E F P Q_2), k_2, n_2)) (g := True ∧ True ∧ True ∧ True) (by with_unfolding_all rfl) ⟨trivial, trivial, trivial, trivial⟩ ?_
  replace h := Option.bind_eq_some_iff.mp h
  obtain ⟨N_3, hc3, h⟩ := h
  try dsimp only at h
  refine am_ev_call (.invokevirtual 173) 42 0 616 [.ref 1] [] rfl rfl rfl rfl (ok_fN_keepPassing hc3 D (by omega)) rfl ?_
  refine am_ev_st 1 (f' := (25, [(2, .int r2), (0, .ref 0), (1, .ref 17)], [.int r2], (W9 N_3 C E F P Q_2), k_2, n_2)) (g := True ∧ True) (by with_unfolding_all rfl) ⟨trivial, trivial⟩ ?_
  cases h
  exact am_ev_ret 0 0 0 rfl .int rfl rfl rfl
def fJ_define (fl : Nat) (d : Nat) (N : cN) (C : cC) (E : cE) (F : cF) (Q : cQ) (k n : Nat) (p1 p2 : Int32) : Option (((Int32) ⊕ Nat) × cN × cC × cE × cF × cQ × (Nat × Nat)) :=
  (fC_isFull C).bind fun z1 =>
  match z1 with
  | (r1) =>
  if (am_bz r1) = 0 then
  ((fJ_begin N E F k n p1 p1 p2).bind fun z3 =>
  match z3 with
  | (.inl (), N_3, E_3, F_3, (k_3, n_3)) =>
  ((fF_typeFound fl d N_3 C E_3 F_3 k_3 n_3 p1).bind fun z4 =>
  match z4 with
  | (.inl r4, N_4, E_4, F_4, (k_4, n_4)) =>
  ((fM_write_Q d N_4 Q r4).bind fun z5 =>
  match z5 with
  | (r5, Q_5) =>
  (fM_hasTooGreat_Q fl Q_5 (1 : Int32)).bind fun z6 =>
  match z6 with
  | (r6) =>
  if (am_bz r6) = 0 then
  ((fJ_lasting fl d N_4 Q_5 k_4 n_4).bind fun z8 =>
  match z8 with
  | (r8, N_8, Q_8, (k_8, n_8)) =>
  (fC_add C r8 p1).bind fun z9 =>
  match z9 with
  | (r9, C_9) =>
  some (.inl r9, N_8, C_9, E_4, F_4, Q_8, (k_8, n_8)))
  else
  some (.inl (-1 : Int32), N_4, C, E_4, F_4, Q_5, (k_4, n_4)))
  | (.inr e4, N_4, E_4, F_4, (k_4, n_4)) =>
  (some (.inr e4, N_4, C, E_4, F_4, Q, (k_4, n_4))))
  | (.inr e3, N_3, E_3, F_3, (k_3, n_3)) =>
  (some (.inr e3, N_3, C, E_3, F_3, Q, (k_3, n_3))))
  else
  (fJ_refuseUnlooked E).bind fun z10 =>
  match z10 with
  | (r10, E_10) =>
  some (.inl r10, N, C, E_10, F, Q, (k, n))
set_option maxHeartbeats 4000000 in
set_option maxRecDepth 100000 in
theorem ok_fJ_define {fl d : Nat} {N : cN} {C : cC} {E : cE} {F : cF} {P : cP} {Q : cQ} {k n : Nat} {p1 p2 : Int32} {rv : (Int32) ⊕ Nat} {N' : cN} {C' : cC} {E' : cE} {F' : cF} {Q' : cQ} {k' n' : Nat} (h : fJ_define fl d N C E F Q k n p1 p2 = some (rv, N', C', E', F', Q', (k', n'))) (D : Nat) (hD : d + 6 ≤ D) : am_Call D 63 [.ref 0, .int p1, .int p2] (W9 N C E F P Q) k n (am_oI rv, W9 N' C' E' F' P Q', k', n') := by
  unfold fJ_define at h
  obtain ⟨D, rfl⟩ : ∃ D', D = D' + 1 := ⟨D - 1, by omega⟩
  have hD : d + 5 ≤ D := by omega
  refine am_call_run (by decide) (by decide) rfl (Nat.le_of_ble_eq_true rfl) (by decide) (L := [(0, .ref 0), (1, .int p1), (2, .int p2)]) rfl ?_
  refine am_ev_st 2 (f' := (4, [(0, .ref 0), (1, .int p1), (2, .int p2)], [.ref 7], (W9 N C E F P Q), k, n)) (g := True ∧ True ∧ True) (by with_unfolding_all rfl) ⟨trivial, trivial, trivial⟩ ?_
  replace h := Option.bind_eq_some_iff.mp h
  obtain ⟨r1, hc1, h⟩ := h
  try dsimp only at h
  refine am_ev_call (.invokevirtual 107) 2 0 604 [.ref 7] [] rfl rfl rfl rfl (ok_fC_isFull hc1 D (by omega)) rfl ?_
  refine am_ev_st 1 (f' := am_br ((am_bz r1) = 0) 15 7 [(0, .ref 0), (1, .int p1), (2, .int p2)] [] (W9 N C E F P Q) k n) (g := True ∧ True) (by with_unfolding_all rfl) ⟨trivial, trivial⟩ ?_
  by_cases c2 : (am_bz r1) = 0
  · rw [if_pos c2] at h
    refine am_ev_pos c2 ?_
    refine am_ev_st 4 (f' := (19, [(0, .ref 0), (1, .int p1), (2, .int p2)], [.int p2, .int p1, .int p1, .ref 0], (W9 N C E F P Q), k, n)) (g := True ∧ True ∧ True ∧ True ∧ True) (by with_unfolding_all rfl) ⟨trivial, trivial, trivial, trivial, trivial⟩ ?_
    replace h := Option.bind_eq_some_iff.mp h
    obtain ⟨⟨⟨⟩ | e3, N_3, E_3, F_3, ⟨k_3, n_3⟩⟩, hc3, h⟩ := h
    · dsimp only at h
      refine am_ev_call (.invokevirtual 86) 71 6 420 [.ref 0, .int p1, .int p1, .int p2] [] rfl rfl rfl rfl (ok_fJ_begin hc3 D (by omega)) rfl ?_
      refine am_ev_st 7 (f' := (35, [(0, .ref 0), (1, .int p1), (2, .int p2)], [.int p1, .ref 13, .ref 1, .ref 17], (W9 N_3 C E_3 F_3 P Q), k_3, n_3)) (g := True ∧ True ∧ True ∧ True ∧ True ∧ True ∧ True ∧ True) (by with_unfolding_all rfl) ⟨trivial, trivial, trivial, trivial, trivial, trivial, trivial, trivial⟩ ?_
      replace h := Option.bind_eq_some_iff.mp h
      obtain ⟨⟨r4 | e4, N_4, E_4, F_4, ⟨k_4, n_4⟩⟩, hc4, h⟩ := h
      · dsimp only at h
        refine am_ev_call (.invokevirtual 90) 9 2 452 [.ref 13, .int p1] [.ref 1, .ref 17] rfl rfl rfl rfl (ok_fF_typeFound hc4 D (by omega)) rfl ?_
        replace h := Option.bind_eq_some_iff.mp h
        obtain ⟨⟨r5, Q_5⟩, hc5, h⟩ := h
        try dsimp only at h
        refine am_ev_call (.invokevirtual 93) 21 4 252 [.ref 17, .ref 1, .int r4] [] rfl rfl rfl rfl (ok_fM_write_Q hc5 D (by omega)) rfl ?_
        refine am_ev_st 4 (f' := (47, [(0, .ref 0), (1, .int p1), (2, .int p2)], [.int (1 : Int32), .ref 17], (W9 N_4 C E_4 F_4 P Q_5), k_4, n_4)) (g := True ∧ True ∧ True ∧ True ∧ True) (by with_unfolding_all rfl) ⟨trivial, trivial, trivial, trivial, trivial⟩ ?_
        replace h := Option.bind_eq_some_iff.mp h
        obtain ⟨r6, hc6, h⟩ := h
        try dsimp only at h
        refine am_ev_call (.invokevirtual 118) 20 2 281 [.ref 17, .int (1 : Int32)] [] rfl rfl rfl rfl (ok_fM_hasTooGreat_Q hc6 D (by omega)) rfl ?_
        refine am_ev_st 1 (f' := am_br ((am_bz r6) = 0) 55 50 [(0, .ref 0), (1, .int p1), (2, .int p2)] [] (W9 N_4 C E_4 F_4 P Q_5) k_4 n_4) (g := True ∧ True) (by with_unfolding_all rfl) ⟨trivial, trivial⟩ ?_
        by_cases c7 : (am_bz r6) = 0
        · rw [if_pos c7] at h
          refine am_ev_pos c7 ?_
          refine am_ev_st 5 (f' := (64, [(0, .ref 0), (1, .int p1), (2, .int p2)], [.ref 17, .ref 0, .ref 7], (W9 N_4 C E_4 F_4 P Q_5), k_4, n_4)) (g := True ∧ True ∧ True ∧ True ∧ True ∧ True) (by with_unfolding_all rfl) ⟨trivial, trivial, trivial, trivial, trivial, trivial⟩ ?_
          replace h := Option.bind_eq_some_iff.mp h
          obtain ⟨⟨r8, N_8, Q_8, ⟨k_8, n_8⟩⟩, hc8, h⟩ := h
          try dsimp only at h
          refine am_ev_call (.invokevirtual 121) 73 2 612 [.ref 0, .ref 17] [.ref 7] rfl rfl rfl rfl (ok_fJ_lasting hc8 D (by omega)) rfl ?_
          refine am_ev_st 1 (f' := (68, [(0, .ref 0), (1, .int p1), (2, .int p2)], [.int p1, .int r8, .ref 7], (W9 N_8 C E_4 F_4 P Q_8), k_8, n_8)) (g := True ∧ True) (by with_unfolding_all rfl) ⟨trivial, trivial⟩ ?_
          replace h := Option.bind_eq_some_iff.mp h
          obtain ⟨⟨r9, C_9⟩, hc9, h⟩ := h
          try dsimp only at h
          refine am_ev_call (.invokevirtual 114) 6 4 620 [.ref 7, .int r8, .int p1] [] rfl rfl rfl rfl (ok_fC_add hc9 D (by omega)) rfl ?_
          cases h
          exact am_ev_ret 0 0 0 rfl .int rfl rfl rfl
        · rw [if_neg c7] at h
          refine am_ev_neg c7 ?_
          refine am_ev_st 1 (f' := (54, [(0, .ref 0), (1, .int p1), (2, .int p2)], [.int (-1 : Int32)], (W9 N_4 C E_4 F_4 P Q_5), k_4, n_4)) (g := True ∧ True) (by with_unfolding_all rfl) ⟨trivial, trivial⟩ ?_
          cases h
          exact am_ev_ret 0 0 0 rfl .int rfl rfl rfl
      · dsimp only at h
        cases h
        exact am_ev_callx (.invokevirtual 90) 9 2 452 [.ref 13, .int p1] [.ref 1, .ref 17] rfl rfl rfl rfl (ok_fF_typeFound hc4 D (by omega)) rfl rfl rfl
    · dsimp only at h
      cases h
      exact am_ev_callx (.invokevirtual 86) 71 6 420 [.ref 0, .int p1, .int p1, .int p2] [] rfl rfl rfl rfl (ok_fJ_begin hc3 D (by omega)) rfl rfl rfl
  · rw [if_neg c2] at h
    refine am_ev_neg c2 ?_
    refine am_ev_st 1 (f' := (11, [(0, .ref 0), (1, .int p1), (2, .int p2)], [.ref 0], (W9 N C E F P Q), k, n)) (g := True ∧ True) (by with_unfolding_all rfl) ⟨trivial, trivial⟩ ?_
    replace h := Option.bind_eq_some_iff.mp h
    obtain ⟨⟨r10, E_10⟩, hc10, h⟩ := h
    try dsimp only at h
    refine am_ev_call (.invokevirtual 111) 72 0 608 [.ref 0] [] rfl rfl rfl rfl (ok_fJ_refuseUnlooked hc10 D (by omega)) rfl ?_
    cases h
    exact am_ev_ret 0 0 0 rfl .int rfl rfl rfl
def fL_define (fl : Nat) (d : Nat) (N : cN) (C : cC) (E : cE) (F : cF) (Q : cQ) (k n : Nat) (p2 p3 : Int32) : Option (Int32 × cN × cC × cE × cF × cQ × (Nat × Nat)) :=
  (fJ_define fl d N C E F Q k n p2 p3).bind fun z1 =>
  match z1 with
  | (.inl r1, N_1, C_1, E_1, F_1, Q_1, (k_1, n_1)) =>
  (some (r1, N_1, C_1, E_1, F_1, Q_1, (k_1, n_1)))
  | (.inr e1, N_1, C_1, E_1, F_1, Q_1, (k_1, n_1)) =>
  (if e1 = 0 then
  (some ((-4 : Int32), N_1, C_1, E_1, F_1, Q_1, (k_1, n_1)))
  else
  if e1 = 1 then
  (some ((-2 : Int32), N_1, C_1, E_1, F_1, Q_1, (k_1, n_1)))
  else
  if e1 = 2 then
  (some ((-3 : Int32), N_1, C_1, E_1, F_1, Q_1, (k_1, n_1)))
  else
  none)
set_option maxHeartbeats 4000000 in
set_option maxRecDepth 100000 in
theorem ok_fL_define {fl d : Nat} {N : cN} {C : cC} {E : cE} {F : cF} {P : cP} {Q : cQ} {k n : Nat} {p2 p3 : Int32} {rv : Int32} {N' : cN} {C' : cC} {E' : cE} {F' : cF} {Q' : cQ} {k' n' : Nat} (h : fL_define fl d N C E F Q k n p2 p3 = some (rv, N', C', E', F', Q', (k', n'))) (D : Nat) (hD : d + 7 ≤ D) : am_Call D 79 [.ref 0, .int p2, .int p3] (W9 N C E F P Q) k n (.inl (some (.int rv)), W9 N' C' E' F' P Q', k', n') := by
  unfold fL_define at h
  obtain ⟨D, rfl⟩ : ∃ D', D = D' + 1 := ⟨D - 1, by omega⟩
  have hD : d + 6 ≤ D := by omega
  refine am_call_run (by decide) (by decide) rfl (Nat.le_of_ble_eq_true rfl) (by decide) (L := [(0, .ref 0), (1, .int p2), (2, .int p3)]) rfl ?_
  refine am_ev_st 3 (f' := (3, [(0, .ref 0), (1, .int p2), (2, .int p3)], [.int p3, .int p2, .ref 0], (W9 N C E F P Q), k, n)) (g := True ∧ True ∧ True ∧ True) (by with_unfolding_all rfl) ⟨trivial, trivial, trivial, trivial⟩ ?_
  replace h := Option.bind_eq_some_iff.mp h
  obtain ⟨⟨r1 | e1, N_1, C_1, E_1, F_1, Q_1, ⟨k_1, n_1⟩⟩, hc1, h⟩ := h
  · dsimp only at h
    refine am_ev_call (.invokevirtual 32) 63 4 600 [.ref 0, .int p2, .int p3] [] rfl rfl rfl rfl (ok_fJ_define hc1 D (by omega)) rfl ?_
    cases h
    exact am_ev_ret 0 0 0 rfl .int rfl rfl rfl
  · dsimp only at h
    by_cases c2 : e1 = 0
    · rw [if_pos c2] at h
      subst c2
      refine am_ev_catch (.invokevirtual 32) 63 4 600 [.ref 0, .int p2, .int p3] [] rfl rfl rfl rfl (ok_fJ_define hc1 D (by omega)) rfl 7 rfl rfl ?_
      refine am_ev_st 2 (f' := (10, [(3, .retAddr 1), (0, .ref 0), (1, .int p2), (2, .int p3)], [.int (-4 : Int32)], (W9 N_1 C_1 E_1 F_1 P Q_1), k_1, n_1)) (g := True ∧ True ∧ True) (by with_unfolding_all rfl) ⟨trivial, trivial, trivial⟩ ?_
      cases h
      exact am_ev_ret 0 0 0 rfl .int rfl rfl rfl
    rw [if_neg c2] at h
    by_cases c3 : e1 = 1
    · rw [if_pos c3] at h
      subst c3
      refine am_ev_catch (.invokevirtual 32) 63 4 600 [.ref 0, .int p2, .int p3] [] rfl rfl rfl rfl (ok_fJ_define hc1 D (by omega)) rfl 11 rfl rfl ?_
      refine am_ev_st 2 (f' := (14, [(3, .retAddr 1), (0, .ref 0), (1, .int p2), (2, .int p3)], [.int (-2 : Int32)], (W9 N_1 C_1 E_1 F_1 P Q_1), k_1, n_1)) (g := True ∧ True ∧ True) (by with_unfolding_all rfl) ⟨trivial, trivial, trivial⟩ ?_
      cases h
      exact am_ev_ret 0 0 0 rfl .int rfl rfl rfl
    rw [if_neg c3] at h
    by_cases c4 : e1 = 2
    · rw [if_pos c4] at h
      subst c4
      refine am_ev_catch (.invokevirtual 32) 63 4 600 [.ref 0, .int p2, .int p3] [] rfl rfl rfl rfl (ok_fJ_define hc1 D (by omega)) rfl 15 rfl rfl ?_
      refine am_ev_st 2 (f' := (18, [(3, .retAddr 1), (0, .ref 0), (1, .int p2), (2, .int p3)], [.int (-3 : Int32)], (W9 N_1 C_1 E_1 F_1 P Q_1), k_1, n_1)) (g := True ∧ True ∧ True) (by with_unfolding_all rfl) ⟨trivial, trivial, trivial⟩ ?_
      cases h
      exact am_ev_ret 0 0 0 rfl .int rfl rfl rfl
    rw [if_neg c4] at h
    cases h
def fJ_declare (fl : Nat) (d : Nat) (N : cN) (C : cC) (E : cE) (F : cF) (k n : Nat) (p1 p2 : Int32) : Option (((Int32) ⊕ Nat) × cN × cC × cE × cF × (Nat × Nat)) :=
  (fC_isFull C).bind fun z1 =>
  match z1 with
  | (r1) =>
  if (am_bz r1) = 0 then
  ((fJ_begin N E F k n p1 p1 p2).bind fun z3 =>
  match z3 with
  | (.inl (), N_3, E_3, F_3, (k_3, n_3)) =>
  ((fF_typeFound fl d N_3 C E_3 F_3 k_3 n_3 p1).bind fun z4 =>
  match z4 with
  | (.inl r4, N_4, E_4, F_4, (k_4, n_4)) =>
  ((fF_levelOf fl d N_4 C E_4 k_4 n_4 r4).bind fun z5 =>
  match z5 with
  | (.inl r5, N_5, E_5, (k_5, n_5)) =>
  ((fC_add C p1 (-1 : Int32)).bind fun z6 =>
  match z6 with
  | (r6, C_6) =>
  some (.inl r6, N_5, C_6, E_5, F_4, (k_5, n_5)))
  | (.inr e5, N_5, E_5, (k_5, n_5)) =>
  (some (.inr e5, N_5, C, E_5, F_4, (k_5, n_5))))
  | (.inr e4, N_4, E_4, F_4, (k_4, n_4)) =>
  (some (.inr e4, N_4, C, E_4, F_4, (k_4, n_4))))
  | (.inr e3, N_3, E_3, F_3, (k_3, n_3)) =>
  (some (.inr e3, N_3, C, E_3, F_3, (k_3, n_3))))
  else
  (fJ_refuseUnlooked E).bind fun z7 =>
  match z7 with
  | (r7, E_7) =>
  some (.inl r7, N, C, E_7, F, (k, n))
set_option maxHeartbeats 4000000 in
set_option maxRecDepth 100000 in
theorem ok_fJ_declare {fl d : Nat} {N : cN} {C : cC} {E : cE} {F : cF} {P : cP} {Q : cQ} {k n : Nat} {p1 p2 : Int32} {rv : (Int32) ⊕ Nat} {N' : cN} {C' : cC} {E' : cE} {F' : cF} {k' n' : Nat} (h : fJ_declare fl d N C E F k n p1 p2 = some (rv, N', C', E', F', (k', n'))) (D : Nat) (hD : d + 6 ≤ D) : am_Call D 62 [.ref 0, .int p1, .int p2] (W9 N C E F P Q) k n (am_oI rv, W9 N' C' E' F' P Q, k', n') := by
  unfold fJ_declare at h
  obtain ⟨D, rfl⟩ : ∃ D', D = D' + 1 := ⟨D - 1, by omega⟩
  have hD : d + 5 ≤ D := by omega
  refine am_call_run (by decide) (by decide) rfl (Nat.le_of_ble_eq_true rfl) (by decide) (L := [(0, .ref 0), (1, .int p1), (2, .int p2)]) rfl ?_
  refine am_ev_st 2 (f' := (4, [(0, .ref 0), (1, .int p1), (2, .int p2)], [.ref 7], (W9 N C E F P Q), k, n)) (g := True ∧ True ∧ True) (by with_unfolding_all rfl) ⟨trivial, trivial, trivial⟩ ?_
  replace h := Option.bind_eq_some_iff.mp h
  obtain ⟨r1, hc1, h⟩ := h
  try dsimp only at h
  refine am_ev_call (.invokevirtual 107) 2 0 604 [.ref 7] [] rfl rfl rfl rfl (ok_fC_isFull hc1 D (by omega)) rfl ?_
  refine am_ev_st 1 (f' := am_br ((am_bz r1) = 0) 15 7 [(0, .ref 0), (1, .int p1), (2, .int p2)] [] (W9 N C E F P Q) k n) (g := True ∧ True) (by with_unfolding_all rfl) ⟨trivial, trivial⟩ ?_
  by_cases c2 : (am_bz r1) = 0
  · rw [if_pos c2] at h
    refine am_ev_pos c2 ?_
    refine am_ev_st 4 (f' := (19, [(0, .ref 0), (1, .int p1), (2, .int p2)], [.int p2, .int p1, .int p1, .ref 0], (W9 N C E F P Q), k, n)) (g := True ∧ True ∧ True ∧ True ∧ True) (by with_unfolding_all rfl) ⟨trivial, trivial, trivial, trivial, trivial⟩ ?_
    replace h := Option.bind_eq_some_iff.mp h
    obtain ⟨⟨⟨⟩ | e3, N_3, E_3, F_3, ⟨k_3, n_3⟩⟩, hc3, h⟩ := h
    · dsimp only at h
      refine am_ev_call (.invokevirtual 86) 71 6 420 [.ref 0, .int p1, .int p1, .int p2] [] rfl rfl rfl rfl (ok_fJ_begin hc3 D (by omega)) rfl ?_
      refine am_ev_st 5 (f' := (31, [(0, .ref 0), (1, .int p1), (2, .int p2)], [.int p1, .ref 13, .ref 13], (W9 N_3 C E_3 F_3 P Q), k_3, n_3)) (g := True ∧ True ∧ True ∧ True ∧ True ∧ True) (by with_unfolding_all rfl) ⟨trivial, trivial, trivial, trivial, trivial, trivial⟩ ?_
      replace h := Option.bind_eq_some_iff.mp h
      obtain ⟨⟨r4 | e4, N_4, E_4, F_4, ⟨k_4, n_4⟩⟩, hc4, h⟩ := h
      · dsimp only at h
        refine am_ev_call (.invokevirtual 90) 9 2 452 [.ref 13, .int p1] [.ref 13] rfl rfl rfl rfl (ok_fF_typeFound hc4 D (by omega)) rfl ?_
        replace h := Option.bind_eq_some_iff.mp h
        obtain ⟨⟨r5 | e5, N_5, E_5, ⟨k_5, n_5⟩⟩, hc5, h⟩ := h
        · dsimp only at h
          refine am_ev_call (.invokevirtual 104) 10 2 596 [.ref 13, .int r4] [] rfl rfl rfl rfl (ok_fF_levelOf hc5 D (by omega)) rfl ?_
          refine am_ev_st 5 (f' := (44, [(0, .ref 0), (1, .int p1), (2, .int p2)], [.int (-1 : Int32), .int p1, .ref 7], (W9 N_5 C E_5 F_4 P Q), k_5, n_5)) (g := True ∧ True ∧ True ∧ True ∧ True ∧ True) (by with_unfolding_all rfl) ⟨trivial, trivial, trivial, trivial, trivial, trivial⟩ ?_
          replace h := Option.bind_eq_some_iff.mp h
          obtain ⟨⟨r6, C_6⟩, hc6, h⟩ := h
          try dsimp only at h
          refine am_ev_call (.invokevirtual 114) 6 4 620 [.ref 7, .int p1, .int (-1 : Int32)] [] rfl rfl rfl rfl (ok_fC_add hc6 D (by omega)) rfl ?_
          cases h
          exact am_ev_ret 0 0 0 rfl .int rfl rfl rfl
        · dsimp only at h
          cases h
          exact am_ev_callx (.invokevirtual 104) 10 2 596 [.ref 13, .int r4] [] rfl rfl rfl rfl (ok_fF_levelOf hc5 D (by omega)) rfl rfl rfl
      · dsimp only at h
        cases h
        exact am_ev_callx (.invokevirtual 90) 9 2 452 [.ref 13, .int p1] [.ref 13] rfl rfl rfl rfl (ok_fF_typeFound hc4 D (by omega)) rfl rfl rfl
    · dsimp only at h
      cases h
      exact am_ev_callx (.invokevirtual 86) 71 6 420 [.ref 0, .int p1, .int p1, .int p2] [] rfl rfl rfl rfl (ok_fJ_begin hc3 D (by omega)) rfl rfl rfl
  · rw [if_neg c2] at h
    refine am_ev_neg c2 ?_
    refine am_ev_st 1 (f' := (11, [(0, .ref 0), (1, .int p1), (2, .int p2)], [.ref 0], (W9 N C E F P Q), k, n)) (g := True ∧ True) (by with_unfolding_all rfl) ⟨trivial, trivial⟩ ?_
    replace h := Option.bind_eq_some_iff.mp h
    obtain ⟨⟨r7, E_7⟩, hc7, h⟩ := h
    try dsimp only at h
    refine am_ev_call (.invokevirtual 111) 72 0 608 [.ref 0] [] rfl rfl rfl rfl (ok_fJ_refuseUnlooked hc7 D (by omega)) rfl ?_
    cases h
    exact am_ev_ret 0 0 0 rfl .int rfl rfl rfl
def fL_declare (fl : Nat) (d : Nat) (N : cN) (C : cC) (E : cE) (F : cF) (k n : Nat) (p2 p3 : Int32) : Option (Int32 × cN × cC × cE × cF × (Nat × Nat)) :=
  (fJ_declare fl d N C E F k n p2 p3).bind fun z1 =>
  match z1 with
  | (.inl r1, N_1, C_1, E_1, F_1, (k_1, n_1)) =>
  (some (r1, N_1, C_1, E_1, F_1, (k_1, n_1)))
  | (.inr e1, N_1, C_1, E_1, F_1, (k_1, n_1)) =>
  (if e1 = 0 then
  (some ((-4 : Int32), N_1, C_1, E_1, F_1, (k_1, n_1)))
  else
  if e1 = 1 then
  (some ((-2 : Int32), N_1, C_1, E_1, F_1, (k_1, n_1)))
  else
  if e1 = 2 then
  (some ((-3 : Int32), N_1, C_1, E_1, F_1, (k_1, n_1)))
  else
  none)
set_option maxHeartbeats 4000000 in
set_option maxRecDepth 100000 in
theorem ok_fL_declare {fl d : Nat} {N : cN} {C : cC} {E : cE} {F : cF} {P : cP} {Q : cQ} {k n : Nat} {p2 p3 : Int32} {rv : Int32} {N' : cN} {C' : cC} {E' : cE} {F' : cF} {k' n' : Nat} (h : fL_declare fl d N C E F k n p2 p3 = some (rv, N', C', E', F', (k', n'))) (D : Nat) (hD : d + 7 ≤ D) : am_Call D 78 [.ref 0, .int p2, .int p3] (W9 N C E F P Q) k n (.inl (some (.int rv)), W9 N' C' E' F' P Q, k', n') := by
  unfold fL_declare at h
  obtain ⟨D, rfl⟩ : ∃ D', D = D' + 1 := ⟨D - 1, by omega⟩
  have hD : d + 6 ≤ D := by omega
  refine am_call_run (by decide) (by decide) rfl (Nat.le_of_ble_eq_true rfl) (by decide) (L := [(0, .ref 0), (1, .int p2), (2, .int p3)]) rfl ?_
  refine am_ev_st 3 (f' := (3, [(0, .ref 0), (1, .int p2), (2, .int p3)], [.int p3, .int p2, .ref 0], (W9 N C E F P Q), k, n)) (g := True ∧ True ∧ True ∧ True) (by with_unfolding_all rfl) ⟨trivial, trivial, trivial, trivial⟩ ?_
  replace h := Option.bind_eq_some_iff.mp h
  obtain ⟨⟨r1 | e1, N_1, C_1, E_1, F_1, ⟨k_1, n_1⟩⟩, hc1, h⟩ := h
  · dsimp only at h
    refine am_ev_call (.invokevirtual 29) 62 4 630 [.ref 0, .int p2, .int p3] [] rfl rfl rfl rfl (ok_fJ_declare hc1 D (by omega)) rfl ?_
    cases h
    exact am_ev_ret 0 0 0 rfl .int rfl rfl rfl
  · dsimp only at h
    by_cases c2 : e1 = 0
    · rw [if_pos c2] at h
      subst c2
      refine am_ev_catch (.invokevirtual 29) 62 4 630 [.ref 0, .int p2, .int p3] [] rfl rfl rfl rfl (ok_fJ_declare hc1 D (by omega)) rfl 7 rfl rfl ?_
      refine am_ev_st 2 (f' := (10, [(3, .retAddr 1), (0, .ref 0), (1, .int p2), (2, .int p3)], [.int (-4 : Int32)], (W9 N_1 C_1 E_1 F_1 P Q), k_1, n_1)) (g := True ∧ True ∧ True) (by with_unfolding_all rfl) ⟨trivial, trivial, trivial⟩ ?_
      cases h
      exact am_ev_ret 0 0 0 rfl .int rfl rfl rfl
    rw [if_neg c2] at h
    by_cases c3 : e1 = 1
    · rw [if_pos c3] at h
      subst c3
      refine am_ev_catch (.invokevirtual 29) 62 4 630 [.ref 0, .int p2, .int p3] [] rfl rfl rfl rfl (ok_fJ_declare hc1 D (by omega)) rfl 11 rfl rfl ?_
      refine am_ev_st 2 (f' := (14, [(3, .retAddr 1), (0, .ref 0), (1, .int p2), (2, .int p3)], [.int (-2 : Int32)], (W9 N_1 C_1 E_1 F_1 P Q), k_1, n_1)) (g := True ∧ True ∧ True) (by with_unfolding_all rfl) ⟨trivial, trivial, trivial⟩ ?_
      cases h
      exact am_ev_ret 0 0 0 rfl .int rfl rfl rfl
    rw [if_neg c3] at h
    by_cases c4 : e1 = 2
    · rw [if_pos c4] at h
      subst c4
      refine am_ev_catch (.invokevirtual 29) 62 4 630 [.ref 0, .int p2, .int p3] [] rfl rfl rfl rfl (ok_fJ_declare hc1 D (by omega)) rfl 15 rfl rfl ?_
      refine am_ev_st 2 (f' := (18, [(3, .retAddr 1), (0, .ref 0), (1, .int p2), (2, .int p3)], [.int (-3 : Int32)], (W9 N_1 C_1 E_1 F_1 P Q), k_1, n_1)) (g := True ∧ True ∧ True) (by with_unfolding_all rfl) ⟨trivial, trivial, trivial⟩ ?_
      cases h
      exact am_ev_ret 0 0 0 rfl .int rfl rfl rfl
    rw [if_neg c4] at h
    cases h
def fL_world (fl : Nat) (d : Nat) (N : cN) (C : cC) (E : cE) (F : cF) (Q : cQ) (k n : Nat) : Option (Int32 × cN × cC × cE × cF × cQ × (Nat × Nat)) :=
  (fJ_make N C (1 : Int32) (0 : Int32) (0 : Int32)).bind fun z1 =>
  match z1 with
  | (r1, N_1) =>
  if r1 ≠ 0 then
  (some ((-1 : Int32), N_1, C, E, F, Q, (k, n)))
  else
  (fL_declare fl d N_1 C E F k n (0 : Int32) (0 : Int32)).bind fun z3 =>
  match z3 with
  | (r3, N_3, C_3, E_3, F_3, (k_3, n_3)) =>
  if r3 ≠ 0 then
  (some ((-1 : Int32), N_3, C_3, E_3, F_3, Q, (k_3, n_3)))
  else
  (fJ_make N_3 C_3 (5 : Int32) (0 : Int32) (0 : Int32)).bind fun z5 =>
  match z5 with
  | (r5, N_5) =>
  if r5 ≠ (1 : Int32) then
  (some ((-1 : Int32), N_5, C_3, E_3, F_3, Q, (k_3, n_3)))
  else
  (fJ_make N_5 C_3 (2 : Int32) (1 : Int32) (1 : Int32)).bind fun z7 =>
  match z7 with
  | (r7, N_7) =>
  if r7 ≠ (2 : Int32) then
  (some ((-1 : Int32), N_7, C_3, E_3, F_3, Q, (k_3, n_3)))
  else
  (fL_declare fl d N_7 C_3 E_3 F_3 k_3 n_3 (1 : Int32) (0 : Int32)).bind fun z9 =>
  match z9 with
  | (r9, N_9, C_9, E_9, F_9, (k_9, n_9)) =>
  if r9 ≠ (1 : Int32) then
  (some ((-1 : Int32), N_9, C_9, E_9, F_9, Q, (k_9, n_9)))
  else
  (fL_declare fl d N_9 C_9 E_9 F_9 k_9 n_9 (2 : Int32) (0 : Int32)).bind fun z11 =>
  match z11 with
  | (r11, N_11, C_11, E_11, F_11, (k_11, n_11)) =>
  if r11 ≠ (2 : Int32) then
  (some ((-1 : Int32), N_11, C_11, E_11, F_11, Q, (k_11, n_11)))
  else
  (fJ_make N_11 C_11 (5 : Int32) (1 : Int32) (0 : Int32)).bind fun z13 =>
  match z13 with
  | (r13, N_13) =>
  if r13 ≠ (3 : Int32) then
  (some ((-1 : Int32), N_13, C_11, E_11, F_11, Q, (k_11, n_11)))
  else
  (fJ_make N_13 C_11 (5 : Int32) (2 : Int32) (0 : Int32)).bind fun z15 =>
  match z15 with
  | (r15, N_15) =>
  if r15 ≠ (4 : Int32) then
  (some ((-1 : Int32), N_15, C_11, E_11, F_11, Q, (k_11, n_11)))
  else
  (fJ_make N_15 C_11 (0 : Int32) (0 : Int32) (0 : Int32)).bind fun z17 =>
  match z17 with
  | (r17, N_17) =>
  if r17 ≠ (5 : Int32) then
  (some ((-1 : Int32), N_17, C_11, E_11, F_11, Q, (k_11, n_11)))
  else
  (fJ_make N_17 C_11 (0 : Int32) (1 : Int32) (0 : Int32)).bind fun z19 =>
  match z19 with
  | (r19, N_19) =>
  if r19 ≠ (6 : Int32) then
  (some ((-1 : Int32), N_19, C_11, E_11, F_11, Q, (k_11, n_11)))
  else
  (fJ_make N_19 C_11 (3 : Int32) (1 : Int32) (5 : Int32)).bind fun z21 =>
  match z21 with
  | (r21, N_21) =>
  if r21 ≠ (7 : Int32) then
  (some ((-1 : Int32), N_21, C_11, E_11, F_11, Q, (k_11, n_11)))
  else
  (fJ_make N_21 C_11 (4 : Int32) (4 : Int32) (5 : Int32)).bind fun z23 =>
  match z23 with
  | (r23, N_23) =>
  if r23 ≠ (8 : Int32) then
  (some ((-1 : Int32), N_23, C_11, E_11, F_11, Q, (k_11, n_11)))
  else
  (fJ_make N_23 C_11 (4 : Int32) (4 : Int32) (8 : Int32)).bind fun z25 =>
  match z25 with
  | (r25, N_25) =>
  if r25 ≠ (9 : Int32) then
  (some ((-1 : Int32), N_25, C_11, E_11, F_11, Q, (k_11, n_11)))
  else
  (fJ_make N_25 C_11 (3 : Int32) (1 : Int32) (9 : Int32)).bind fun z27 =>
  match z27 with
  | (r27, N_27) =>
  if r27 ≠ (10 : Int32) then
  (some ((-1 : Int32), N_27, C_11, E_11, F_11, Q, (k_11, n_11)))
  else
  (fJ_make N_27 C_11 (4 : Int32) (6 : Int32) (5 : Int32)).bind fun z29 =>
  match z29 with
  | (r29, N_29) =>
  if r29 ≠ (11 : Int32) then
  (some ((-1 : Int32), N_29, C_11, E_11, F_11, Q, (k_11, n_11)))
  else
  (fJ_make N_29 C_11 (4 : Int32) (6 : Int32) (11 : Int32)).bind fun z31 =>
  match z31 with
  | (r31, N_31) =>
  if r31 ≠ (12 : Int32) then
  (some ((-1 : Int32), N_31, C_11, E_11, F_11, Q, (k_11, n_11)))
  else
  (fJ_make N_31 C_11 (3 : Int32) (1 : Int32) (12 : Int32)).bind fun z33 =>
  match z33 with
  | (r33, N_33) =>
  if r33 ≠ (13 : Int32) then
  (some ((-1 : Int32), N_33, C_11, E_11, F_11, Q, (k_11, n_11)))
  else
  (fJ_make N_33 C_11 (3 : Int32) (2 : Int32) (13 : Int32)).bind fun z35 =>
  match z35 with
  | (r35, N_35) =>
  if r35 ≠ (14 : Int32) then
  (some ((-1 : Int32), N_35, C_11, E_11, F_11, Q, (k_11, n_11)))
  else
  (fJ_make N_35 C_11 (3 : Int32) (5 : Int32) (5 : Int32)).bind fun z37 =>
  match z37 with
  | (r37, N_37) =>
  if r37 ≠ (15 : Int32) then
  (some ((-1 : Int32), N_37, C_11, E_11, F_11, Q, (k_11, n_11)))
  else
  (fJ_make N_37 C_11 (3 : Int32) (0 : Int32) (15 : Int32)).bind fun z39 =>
  match z39 with
  | (r39, N_39) =>
  if r39 ≠ (16 : Int32) then
  (some ((-1 : Int32), N_39, C_11, E_11, F_11, Q, (k_11, n_11)))
  else
  (fL_define fl d N_39 C_11 E_11 F_11 Q k_11 n_11 (14 : Int32) (0 : Int32)).bind fun z41 =>
  match z41 with
  | (r41, N_41, C_41, E_41, F_41, Q_41, (k_41, n_41)) =>
  if r41 ≠ (3 : Int32) then
  (some ((-1 : Int32), N_41, C_41, E_41, F_41, Q_41, (k_41, n_41)))
  else
  (fJ_make N_41 C_41 (5 : Int32) (3 : Int32) (0 : Int32)).bind fun z43 =>
  match z43 with
  | (r43, N_43) =>
  if r43 ≠ (17 : Int32) then
  (some ((-1 : Int32), N_43, C_41, E_41, F_41, Q_41, (k_41, n_41)))
  else
  (fL_define fl d N_43 C_41 E_41 F_41 Q_41 k_41 n_41 (10 : Int32) (0 : Int32)).bind fun z45 =>
  match z45 with
  | (r45, N_45, C_45, E_45, F_45, Q_45, (k_45, n_45)) =>
  if r45 ≠ (4 : Int32) then
  (some ((-1 : Int32), N_45, C_45, E_45, F_45, Q_45, (k_45, n_45)))
  else
  (fJ_make N_45 C_45 (5 : Int32) (4 : Int32) (0 : Int32)).bind fun z47 =>
  match z47 with
  | (r47, N_47) =>
  if r47 ≠ (18 : Int32) then
  (some ((-1 : Int32), N_47, C_45, E_45, F_45, Q_45, (k_45, n_45)))
  else
  some ((19 : Int32), N_47, C_45, E_45, F_45, Q_45, (k_45, n_45))
set_option maxHeartbeats 4000000 in
set_option maxRecDepth 100000 in
theorem ok_fL_world {fl d : Nat} {N : cN} {C : cC} {E : cE} {F : cF} {P : cP} {Q : cQ} {k n : Nat} {rv : Int32} {N' : cN} {C' : cC} {E' : cE} {F' : cF} {Q' : cQ} {k' n' : Nat} (h : fL_world fl d N C E F Q k n = some (rv, N', C', E', F', Q', (k', n'))) (D : Nat) (hD : d + 8 ≤ D) : am_Call D 80 [.ref 0] (W9 N C E F P Q) k n (.inl (some (.int rv)), W9 N' C' E' F' P Q', k', n') := by
  unfold fL_world at h
  obtain ⟨D, rfl⟩ : ∃ D', D = D' + 1 := ⟨D - 1, by omega⟩
  have hD : d + 7 ≤ D := by omega
  refine am_call_run (by decide) (by decide) rfl (Nat.le_of_ble_eq_true rfl) (by decide) (L := [(0, .ref 0)]) rfl ?_
  refine am_ev_st 4 (f' := (4, [(0, .ref 0)], [.int (0 : Int32), .int (0 : Int32), .int (1 : Int32), .ref 0], (W9 N C E F P Q), k, n)) (g := True ∧ True ∧ True ∧ True ∧ True) (by with_unfolding_all rfl) ⟨trivial, trivial, trivial, trivial, trivial⟩ ?_
  replace h := Option.bind_eq_some_iff.mp h
  obtain ⟨⟨r1, N_1⟩, hc1, h⟩ := h
  try dsimp only at h
  refine am_ev_call (.invokevirtual 35) 56 6 177 [.ref 0, .int (1 : Int32), .int (0 : Int32), .int (0 : Int32)] [] rfl rfl rfl rfl (ok_fJ_make hc1 D (by omega)) rfl ?_
  refine am_ev_st 1 (f' := am_br (r1 ≠ 0) 110 7 [(0, .ref 0)] [] (W9 N_1 C E F P Q) k n) (g := True ∧ True) (by with_unfolding_all rfl) ⟨trivial, trivial⟩ ?_
  by_cases c2 : r1 ≠ 0
  · rw [if_pos c2] at h
    refine am_ev_pos c2 ?_
    refine am_ev_st 4 (f' := am_br ((0 : Int32) = 0) 170 113 [(1, .int (0 : Int32)), (0, .ref 0)] [] (W9 N_1 C E F P Q) k n) (g := True ∧ True ∧ True ∧ True ∧ True) (by with_unfolding_all rfl) ⟨trivial, trivial, trivial, trivial, trivial⟩ ?_
    refine am_ev_pos (by decide) ?_
    refine am_ev_st 4 (f' := am_br ((0 : Int32) = 0) 233 173 [(1, .int (0 : Int32)), (0, .ref 0)] [] (W9 N_1 C E F P Q) k n) (g := True ∧ True ∧ True ∧ True ∧ True) (by with_unfolding_all rfl) ⟨trivial, trivial, trivial, trivial, trivial⟩ ?_
    refine am_ev_pos (by decide) ?_
    refine am_ev_st 4 (f' := am_br ((0 : Int32) = 0) 314 236 [(1, .int (0 : Int32)), (0, .ref 0)] [] (W9 N_1 C E F P Q) k n) (g := True ∧ True ∧ True ∧ True ∧ True) (by with_unfolding_all rfl) ⟨trivial, trivial, trivial, trivial, trivial⟩ ?_
    refine am_ev_pos (by decide) ?_
    refine am_ev_st 4 (f' := am_br ((0 : Int32) = 0) 325 317 [(1, .int (0 : Int32)), (0, .ref 0)] [] (W9 N_1 C E F P Q) k n) (g := True ∧ True ∧ True ∧ True ∧ True) (by with_unfolding_all rfl) ⟨trivial, trivial, trivial, trivial, trivial⟩ ?_
    refine am_ev_pos (by decide) ?_
    refine am_ev_st 1 (f' := (326, [(1, .int (0 : Int32)), (0, .ref 0)], [.int (-1 : Int32)], (W9 N_1 C E F P Q), k, n)) (g := True ∧ True) (by with_unfolding_all rfl) ⟨trivial, trivial⟩ ?_
    cases h
    exact am_ev_ret 0 0 0 rfl .int rfl rfl rfl
  · rw [if_neg c2] at h
    refine am_ev_neg c2 ?_
    refine am_ev_st 3 (f' := (13, [(0, .ref 0)], [.int (0 : Int32), .int (0 : Int32), .ref 0], (W9 N_1 C E F P Q), k, n)) (g := True ∧ True ∧ True ∧ True) (by with_unfolding_all rfl) ⟨trivial, trivial, trivial, trivial⟩ ?_
    replace h := Option.bind_eq_some_iff.mp h
    obtain ⟨⟨r3, N_3, C_3, E_3, F_3, ⟨k_3, n_3⟩⟩, hc3, h⟩ := h
    try dsimp only at h
    refine am_ev_call (.invokestatic 39) 78 6 627 [.ref 0, .int (0 : Int32), .int (0 : Int32)] [] rfl rfl rfl rfl (ok_fL_declare hc3 D (by omega)) rfl ?_
    refine am_ev_st 1 (f' := am_br (r3 ≠ 0) 110 16 [(0, .ref 0)] [] (W9 N_3 C_3 E_3 F_3 P Q) k_3 n_3) (g := True ∧ True) (by with_unfolding_all rfl) ⟨trivial, trivial⟩ ?_
    by_cases c4 : r3 ≠ 0
    · rw [if_pos c4] at h
      refine am_ev_pos c4 ?_
      refine am_ev_st 4 (f' := am_br ((0 : Int32) = 0) 170 113 [(1, .int (0 : Int32)), (0, .ref 0)] [] (W9 N_3 C_3 E_3 F_3 P Q) k_3 n_3) (g := True ∧ True ∧ True ∧ True ∧ True) (by with_unfolding_all rfl) ⟨trivial, trivial, trivial, trivial, trivial⟩ ?_
      refine am_ev_pos (by decide) ?_
      refine am_ev_st 4 (f' := am_br ((0 : Int32) = 0) 233 173 [(1, .int (0 : Int32)), (0, .ref 0)] [] (W9 N_3 C_3 E_3 F_3 P Q) k_3 n_3) (g := True ∧ True ∧ True ∧ True ∧ True) (by with_unfolding_all rfl) ⟨trivial, trivial, trivial, trivial, trivial⟩ ?_
      refine am_ev_pos (by decide) ?_
      refine am_ev_st 4 (f' := am_br ((0 : Int32) = 0) 314 236 [(1, .int (0 : Int32)), (0, .ref 0)] [] (W9 N_3 C_3 E_3 F_3 P Q) k_3 n_3) (g := True ∧ True ∧ True ∧ True ∧ True) (by with_unfolding_all rfl) ⟨trivial, trivial, trivial, trivial, trivial⟩ ?_
      refine am_ev_pos (by decide) ?_
      refine am_ev_st 4 (f' := am_br ((0 : Int32) = 0) 325 317 [(1, .int (0 : Int32)), (0, .ref 0)] [] (W9 N_3 C_3 E_3 F_3 P Q) k_3 n_3) (g := True ∧ True ∧ True ∧ True ∧ True) (by with_unfolding_all rfl) ⟨trivial, trivial, trivial, trivial, trivial⟩ ?_
      refine am_ev_pos (by decide) ?_
      refine am_ev_st 1 (f' := (326, [(1, .int (0 : Int32)), (0, .ref 0)], [.int (-1 : Int32)], (W9 N_3 C_3 E_3 F_3 P Q), k_3, n_3)) (g := True ∧ True) (by with_unfolding_all rfl) ⟨trivial, trivial⟩ ?_
      cases h
      exact am_ev_ret 0 0 0 rfl .int rfl rfl rfl
    · rw [if_neg c4] at h
      refine am_ev_neg c4 ?_
      refine am_ev_st 4 (f' := (23, [(0, .ref 0)], [.int (0 : Int32), .int (0 : Int32), .int (5 : Int32), .ref 0], (W9 N_3 C_3 E_3 F_3 P Q), k_3, n_3)) (g := True ∧ True ∧ True ∧ True ∧ True) (by with_unfolding_all rfl) ⟨trivial, trivial, trivial, trivial, trivial⟩ ?_
      replace h := Option.bind_eq_some_iff.mp h
      obtain ⟨⟨r5, N_5⟩, hc5, h⟩ := h
      try dsimp only at h
      refine am_ev_call (.invokevirtual 35) 56 6 177 [.ref 0, .int (5 : Int32), .int (0 : Int32), .int (0 : Int32)] [] rfl rfl rfl rfl (ok_fJ_make hc5 D (by omega)) rfl ?_
      refine am_ev_st 2 (f' := am_br (r5 ≠ (1 : Int32)) 110 27 [(0, .ref 0)] [] (W9 N_5 C_3 E_3 F_3 P Q) k_3 n_3) (g := True ∧ True ∧ True) (by with_unfolding_all rfl) ⟨trivial, trivial, trivial⟩ ?_
      by_cases c6 : r5 ≠ (1 : Int32)
      · rw [if_pos c6] at h
        refine am_ev_pos c6 ?_
        refine am_ev_st 4 (f' := am_br ((0 : Int32) = 0) 170 113 [(1, .int (0 : Int32)), (0, .ref 0)] [] (W9 N_5 C_3 E_3 F_3 P Q) k_3 n_3) (g := True ∧ True ∧ True ∧ True ∧ True) (by with_unfolding_all rfl) ⟨trivial, trivial, trivial, trivial, trivial⟩ ?_
        refine am_ev_pos (by decide) ?_
        refine am_ev_st 4 (f' := am_br ((0 : Int32) = 0) 233 173 [(1, .int (0 : Int32)), (0, .ref 0)] [] (W9 N_5 C_3 E_3 F_3 P Q) k_3 n_3) (g := True ∧ True ∧ True ∧ True ∧ True) (by with_unfolding_all rfl) ⟨trivial, trivial, trivial, trivial, trivial⟩ ?_
        refine am_ev_pos (by decide) ?_
        refine am_ev_st 4 (f' := am_br ((0 : Int32) = 0) 314 236 [(1, .int (0 : Int32)), (0, .ref 0)] [] (W9 N_5 C_3 E_3 F_3 P Q) k_3 n_3) (g := True ∧ True ∧ True ∧ True ∧ True) (by with_unfolding_all rfl) ⟨trivial, trivial, trivial, trivial, trivial⟩ ?_
        refine am_ev_pos (by decide) ?_
        refine am_ev_st 4 (f' := am_br ((0 : Int32) = 0) 325 317 [(1, .int (0 : Int32)), (0, .ref 0)] [] (W9 N_5 C_3 E_3 F_3 P Q) k_3 n_3) (g := True ∧ True ∧ True ∧ True ∧ True) (by with_unfolding_all rfl) ⟨trivial, trivial, trivial, trivial, trivial⟩ ?_
        refine am_ev_pos (by decide) ?_
        refine am_ev_st 1 (f' := (326, [(1, .int (0 : Int32)), (0, .ref 0)], [.int (-1 : Int32)], (W9 N_5 C_3 E_3 F_3 P Q), k_3, n_3)) (g := True ∧ True) (by with_unfolding_all rfl) ⟨trivial, trivial⟩ ?_
        cases h
        exact am_ev_ret 0 0 0 rfl .int rfl rfl rfl
      · rw [if_neg c6] at h
        refine am_ev_neg c6 ?_
        refine am_ev_st 4 (f' := (34, [(0, .ref 0)], [.int (1 : Int32), .int (1 : Int32), .int (2 : Int32), .ref 0], (W9 N_5 C_3 E_3 F_3 P Q), k_3, n_3)) (g := True ∧ True ∧ True ∧ True ∧ True) (by with_unfolding_all rfl) ⟨trivial, trivial, trivial, trivial, trivial⟩ ?_
        replace h := Option.bind_eq_some_iff.mp h
        obtain ⟨⟨r7, N_7⟩, hc7, h⟩ := h
        try dsimp only at h
        refine am_ev_call (.invokevirtual 35) 56 6 177 [.ref 0, .int (2 : Int32), .int (1 : Int32), .int (1 : Int32)] [] rfl rfl rfl rfl (ok_fJ_make hc7 D (by omega)) rfl ?_
        refine am_ev_st 2 (f' := am_br (r7 ≠ (2 : Int32)) 110 38 [(0, .ref 0)] [] (W9 N_7 C_3 E_3 F_3 P Q) k_3 n_3) (g := True ∧ True ∧ True) (by with_unfolding_all rfl) ⟨trivial, trivial, trivial⟩ ?_
        by_cases c8 : r7 ≠ (2 : Int32)
        · rw [if_pos c8] at h
          refine am_ev_pos c8 ?_
          refine am_ev_st 4 (f' := am_br ((0 : Int32) = 0) 170 113 [(1, .int (0 : Int32)), (0, .ref 0)] [] (W9 N_7 C_3 E_3 F_3 P Q) k_3 n_3) (g := True ∧ True ∧ True ∧ True ∧ True) (by with_unfolding_all rfl) ⟨trivial, trivial, trivial, trivial, trivial⟩ ?_
          refine am_ev_pos (by decide) ?_
          refine am_ev_st 4 (f' := am_br ((0 : Int32) = 0) 233 173 [(1, .int (0 : Int32)), (0, .ref 0)] [] (W9 N_7 C_3 E_3 F_3 P Q) k_3 n_3) (g := True ∧ True ∧ True ∧ True ∧ True) (by with_unfolding_all rfl) ⟨trivial, trivial, trivial, trivial, trivial⟩ ?_
          refine am_ev_pos (by decide) ?_
          refine am_ev_st 4 (f' := am_br ((0 : Int32) = 0) 314 236 [(1, .int (0 : Int32)), (0, .ref 0)] [] (W9 N_7 C_3 E_3 F_3 P Q) k_3 n_3) (g := True ∧ True ∧ True ∧ True ∧ True) (by with_unfolding_all rfl) ⟨trivial, trivial, trivial, trivial, trivial⟩ ?_
          refine am_ev_pos (by decide) ?_
          refine am_ev_st 4 (f' := am_br ((0 : Int32) = 0) 325 317 [(1, .int (0 : Int32)), (0, .ref 0)] [] (W9 N_7 C_3 E_3 F_3 P Q) k_3 n_3) (g := True ∧ True ∧ True ∧ True ∧ True) (by with_unfolding_all rfl) ⟨trivial, trivial, trivial, trivial, trivial⟩ ?_
          refine am_ev_pos (by decide) ?_
          refine am_ev_st 1 (f' := (326, [(1, .int (0 : Int32)), (0, .ref 0)], [.int (-1 : Int32)], (W9 N_7 C_3 E_3 F_3 P Q), k_3, n_3)) (g := True ∧ True) (by with_unfolding_all rfl) ⟨trivial, trivial⟩ ?_
          cases h
          exact am_ev_ret 0 0 0 rfl .int rfl rfl rfl
        · rw [if_neg c8] at h
          refine am_ev_neg c8 ?_
          refine am_ev_st 3 (f' := (44, [(0, .ref 0)], [.int (0 : Int32), .int (1 : Int32), .ref 0], (W9 N_7 C_3 E_3 F_3 P Q), k_3, n_3)) (g := True ∧ True ∧ True ∧ True) (by with_unfolding_all rfl) ⟨trivial, trivial, trivial, trivial⟩ ?_
          replace h := Option.bind_eq_some_iff.mp h
          obtain ⟨⟨r9, N_9, C_9, E_9, F_9, ⟨k_9, n_9⟩⟩, hc9, h⟩ := h
          try dsimp only at h
          refine am_ev_call (.invokestatic 39) 78 6 627 [.ref 0, .int (1 : Int32), .int (0 : Int32)] [] rfl rfl rfl rfl (ok_fL_declare hc9 D (by omega)) rfl ?_
          refine am_ev_st 2 (f' := am_br (r9 ≠ (1 : Int32)) 110 48 [(0, .ref 0)] [] (W9 N_9 C_9 E_9 F_9 P Q) k_9 n_9) (g := True ∧ True ∧ True) (by with_unfolding_all rfl) ⟨trivial, trivial, trivial⟩ ?_
          by_cases c10 : r9 ≠ (1 : Int32)
          · rw [if_pos c10] at h
            refine am_ev_pos c10 ?_
            refine am_ev_st 4 (f' := am_br ((0 : Int32) = 0) 170 113 [(1, .int (0 : Int32)), (0, .ref 0)] [] (W9 N_9 C_9 E_9 F_9 P Q) k_9 n_9) (g := True ∧ True ∧ True ∧ True ∧ True) (by with_unfolding_all rfl) ⟨trivial, trivial, trivial, trivial, trivial⟩ ?_
            refine am_ev_pos (by decide) ?_
            refine am_ev_st 4 (f' := am_br ((0 : Int32) = 0) 233 173 [(1, .int (0 : Int32)), (0, .ref 0)] [] (W9 N_9 C_9 E_9 F_9 P Q) k_9 n_9) (g := True ∧ True ∧ True ∧ True ∧ True) (by with_unfolding_all rfl) ⟨trivial, trivial, trivial, trivial, trivial⟩ ?_
            refine am_ev_pos (by decide) ?_
            refine am_ev_st 4 (f' := am_br ((0 : Int32) = 0) 314 236 [(1, .int (0 : Int32)), (0, .ref 0)] [] (W9 N_9 C_9 E_9 F_9 P Q) k_9 n_9) (g := True ∧ True ∧ True ∧ True ∧ True) (by with_unfolding_all rfl) ⟨trivial, trivial, trivial, trivial, trivial⟩ ?_
            refine am_ev_pos (by decide) ?_
            refine am_ev_st 4 (f' := am_br ((0 : Int32) = 0) 325 317 [(1, .int (0 : Int32)), (0, .ref 0)] [] (W9 N_9 C_9 E_9 F_9 P Q) k_9 n_9) (g := True ∧ True ∧ True ∧ True ∧ True) (by with_unfolding_all rfl) ⟨trivial, trivial, trivial, trivial, trivial⟩ ?_
            refine am_ev_pos (by decide) ?_
            refine am_ev_st 1 (f' := (326, [(1, .int (0 : Int32)), (0, .ref 0)], [.int (-1 : Int32)], (W9 N_9 C_9 E_9 F_9 P Q), k_9, n_9)) (g := True ∧ True) (by with_unfolding_all rfl) ⟨trivial, trivial⟩ ?_
            cases h
            exact am_ev_ret 0 0 0 rfl .int rfl rfl rfl
          · rw [if_neg c10] at h
            refine am_ev_neg c10 ?_
            refine am_ev_st 3 (f' := (54, [(0, .ref 0)], [.int (0 : Int32), .int (2 : Int32), .ref 0], (W9 N_9 C_9 E_9 F_9 P Q), k_9, n_9)) (g := True ∧ True ∧ True ∧ True) (by with_unfolding_all rfl) ⟨trivial, trivial, trivial, trivial⟩ ?_
            replace h := Option.bind_eq_some_iff.mp h
            obtain ⟨⟨r11, N_11, C_11, E_11, F_11, ⟨k_11, n_11⟩⟩, hc11, h⟩ := h
            try dsimp only at h
            refine am_ev_call (.invokestatic 39) 78 6 627 [.ref 0, .int (2 : Int32), .int (0 : Int32)] [] rfl rfl rfl rfl (ok_fL_declare hc11 D (by omega)) rfl ?_
            refine am_ev_st 2 (f' := am_br (r11 ≠ (2 : Int32)) 110 58 [(0, .ref 0)] [] (W9 N_11 C_11 E_11 F_11 P Q) k_11 n_11) (g := True ∧ True ∧ True) (by with_unfolding_all rfl) ⟨trivial, trivial, trivial⟩ ?_
            by_cases c12 : r11 ≠ (2 : Int32)
            · rw [if_pos c12] at h
              refine am_ev_pos c12 ?_
              refine am_ev_st 4 (f' := am_br ((0 : Int32) = 0) 170 113 [(1, .int (0 : Int32)), (0, .ref 0)] [] (W9 N_11 C_11 E_11 F_11 P Q) k_11 n_11) (g := True ∧ True ∧ True ∧ True ∧ True) (by with_unfolding_all rfl) ⟨trivial, trivial, trivial, trivial, trivial⟩ ?_
              refine am_ev_pos (by decide) ?_
              refine am_ev_st 4 (f' := am_br ((0 : Int32) = 0) 233 173 [(1, .int (0 : Int32)), (0, .ref 0)] [] (W9 N_11 C_11 E_11 F_11 P Q) k_11 n_11) (g := True ∧ True ∧ True ∧ True ∧ True) (by with_unfolding_all rfl) ⟨trivial, trivial, trivial, trivial, trivial⟩ ?_
              refine am_ev_pos (by decide) ?_
              refine am_ev_st 4 (f' := am_br ((0 : Int32) = 0) 314 236 [(1, .int (0 : Int32)), (0, .ref 0)] [] (W9 N_11 C_11 E_11 F_11 P Q) k_11 n_11) (g := True ∧ True ∧ True ∧ True ∧ True) (by with_unfolding_all rfl) ⟨trivial, trivial, trivial, trivial, trivial⟩ ?_
              refine am_ev_pos (by decide) ?_
              refine am_ev_st 4 (f' := am_br ((0 : Int32) = 0) 325 317 [(1, .int (0 : Int32)), (0, .ref 0)] [] (W9 N_11 C_11 E_11 F_11 P Q) k_11 n_11) (g := True ∧ True ∧ True ∧ True ∧ True) (by with_unfolding_all rfl) ⟨trivial, trivial, trivial, trivial, trivial⟩ ?_
              refine am_ev_pos (by decide) ?_
              refine am_ev_st 1 (f' := (326, [(1, .int (0 : Int32)), (0, .ref 0)], [.int (-1 : Int32)], (W9 N_11 C_11 E_11 F_11 P Q), k_11, n_11)) (g := True ∧ True) (by with_unfolding_all rfl) ⟨trivial, trivial⟩ ?_
              cases h
              exact am_ev_ret 0 0 0 rfl .int rfl rfl rfl
            · rw [if_neg c12] at h
              refine am_ev_neg c12 ?_
              refine am_ev_st 4 (f' := (65, [(0, .ref 0)], [.int (0 : Int32), .int (1 : Int32), .int (5 : Int32), .ref 0], (W9 N_11 C_11 E_11 F_11 P Q), k_11, n_11)) (g := True ∧ True ∧ True ∧ True ∧ True) (by with_unfolding_all rfl) ⟨trivial, trivial, trivial, trivial, trivial⟩ ?_
              replace h := Option.bind_eq_some_iff.mp h
              obtain ⟨⟨r13, N_13⟩, hc13, h⟩ := h
              try dsimp only at h
              refine am_ev_call (.invokevirtual 35) 56 6 177 [.ref 0, .int (5 : Int32), .int (1 : Int32), .int (0 : Int32)] [] rfl rfl rfl rfl (ok_fJ_make hc13 D (by omega)) rfl ?_
              refine am_ev_st 2 (f' := am_br (r13 ≠ (3 : Int32)) 110 69 [(0, .ref 0)] [] (W9 N_13 C_11 E_11 F_11 P Q) k_11 n_11) (g := True ∧ True ∧ True) (by with_unfolding_all rfl) ⟨trivial, trivial, trivial⟩ ?_
              by_cases c14 : r13 ≠ (3 : Int32)
              · rw [if_pos c14] at h
                refine am_ev_pos c14 ?_
                refine am_ev_st 4 (f' := am_br ((0 : Int32) = 0) 170 113 [(1, .int (0 : Int32)), (0, .ref 0)] [] (W9 N_13 C_11 E_11 F_11 P Q) k_11 n_11) (g := True ∧ True ∧ True ∧ True ∧ True) (by with_unfolding_all rfl) ⟨trivial, trivial, trivial, trivial, trivial⟩ ?_
                refine am_ev_pos (by decide) ?_
                refine am_ev_st 4 (f' := am_br ((0 : Int32) = 0) 233 173 [(1, .int (0 : Int32)), (0, .ref 0)] [] (W9 N_13 C_11 E_11 F_11 P Q) k_11 n_11) (g := True ∧ True ∧ True ∧ True ∧ True) (by with_unfolding_all rfl) ⟨trivial, trivial, trivial, trivial, trivial⟩ ?_
                refine am_ev_pos (by decide) ?_
                refine am_ev_st 4 (f' := am_br ((0 : Int32) = 0) 314 236 [(1, .int (0 : Int32)), (0, .ref 0)] [] (W9 N_13 C_11 E_11 F_11 P Q) k_11 n_11) (g := True ∧ True ∧ True ∧ True ∧ True) (by with_unfolding_all rfl) ⟨trivial, trivial, trivial, trivial, trivial⟩ ?_
                refine am_ev_pos (by decide) ?_
                refine am_ev_st 4 (f' := am_br ((0 : Int32) = 0) 325 317 [(1, .int (0 : Int32)), (0, .ref 0)] [] (W9 N_13 C_11 E_11 F_11 P Q) k_11 n_11) (g := True ∧ True ∧ True ∧ True ∧ True) (by with_unfolding_all rfl) ⟨trivial, trivial, trivial, trivial, trivial⟩ ?_
                refine am_ev_pos (by decide) ?_
                refine am_ev_st 1 (f' := (326, [(1, .int (0 : Int32)), (0, .ref 0)], [.int (-1 : Int32)], (W9 N_13 C_11 E_11 F_11 P Q), k_11, n_11)) (g := True ∧ True) (by with_unfolding_all rfl) ⟨trivial, trivial⟩ ?_
                cases h
                exact am_ev_ret 0 0 0 rfl .int rfl rfl rfl
              · rw [if_neg c14] at h
                refine am_ev_neg c14 ?_
                refine am_ev_st 4 (f' := (76, [(0, .ref 0)], [.int (0 : Int32), .int (2 : Int32), .int (5 : Int32), .ref 0], (W9 N_13 C_11 E_11 F_11 P Q), k_11, n_11)) (g := True ∧ True ∧ True ∧ True ∧ True) (by with_unfolding_all rfl) ⟨trivial, trivial, trivial, trivial, trivial⟩ ?_
                replace h := Option.bind_eq_some_iff.mp h
                obtain ⟨⟨r15, N_15⟩, hc15, h⟩ := h
                try dsimp only at h
                refine am_ev_call (.invokevirtual 35) 56 6 177 [.ref 0, .int (5 : Int32), .int (2 : Int32), .int (0 : Int32)] [] rfl rfl rfl rfl (ok_fJ_make hc15 D (by omega)) rfl ?_
                refine am_ev_st 2 (f' := am_br (r15 ≠ (4 : Int32)) 110 80 [(0, .ref 0)] [] (W9 N_15 C_11 E_11 F_11 P Q) k_11 n_11) (g := True ∧ True ∧ True) (by with_unfolding_all rfl) ⟨trivial, trivial, trivial⟩ ?_
                by_cases c16 : r15 ≠ (4 : Int32)
                · rw [if_pos c16] at h
                  refine am_ev_pos c16 ?_
                  refine am_ev_st 4 (f' := am_br ((0 : Int32) = 0) 170 113 [(1, .int (0 : Int32)), (0, .ref 0)] [] (W9 N_15 C_11 E_11 F_11 P Q) k_11 n_11) (g := True ∧ True ∧ True ∧ True ∧ True) (by with_unfolding_all rfl) ⟨trivial, trivial, trivial, trivial, trivial⟩ ?_
                  refine am_ev_pos (by decide) ?_
                  refine am_ev_st 4 (f' := am_br ((0 : Int32) = 0) 233 173 [(1, .int (0 : Int32)), (0, .ref 0)] [] (W9 N_15 C_11 E_11 F_11 P Q) k_11 n_11) (g := True ∧ True ∧ True ∧ True ∧ True) (by with_unfolding_all rfl) ⟨trivial, trivial, trivial, trivial, trivial⟩ ?_
                  refine am_ev_pos (by decide) ?_
                  refine am_ev_st 4 (f' := am_br ((0 : Int32) = 0) 314 236 [(1, .int (0 : Int32)), (0, .ref 0)] [] (W9 N_15 C_11 E_11 F_11 P Q) k_11 n_11) (g := True ∧ True ∧ True ∧ True ∧ True) (by with_unfolding_all rfl) ⟨trivial, trivial, trivial, trivial, trivial⟩ ?_
                  refine am_ev_pos (by decide) ?_
                  refine am_ev_st 4 (f' := am_br ((0 : Int32) = 0) 325 317 [(1, .int (0 : Int32)), (0, .ref 0)] [] (W9 N_15 C_11 E_11 F_11 P Q) k_11 n_11) (g := True ∧ True ∧ True ∧ True ∧ True) (by with_unfolding_all rfl) ⟨trivial, trivial, trivial, trivial, trivial⟩ ?_
                  refine am_ev_pos (by decide) ?_
                  refine am_ev_st 1 (f' := (326, [(1, .int (0 : Int32)), (0, .ref 0)], [.int (-1 : Int32)], (W9 N_15 C_11 E_11 F_11 P Q), k_11, n_11)) (g := True ∧ True) (by with_unfolding_all rfl) ⟨trivial, trivial⟩ ?_
                  cases h
                  exact am_ev_ret 0 0 0 rfl .int rfl rfl rfl
                · rw [if_neg c16] at h
                  refine am_ev_neg c16 ?_
                  refine am_ev_st 4 (f' := (87, [(0, .ref 0)], [.int (0 : Int32), .int (0 : Int32), .int (0 : Int32), .ref 0], (W9 N_15 C_11 E_11 F_11 P Q), k_11, n_11)) (g := True ∧ True ∧ True ∧ True ∧ True) (by with_unfolding_all rfl) ⟨trivial, trivial, trivial, trivial, trivial⟩ ?_
                  replace h := Option.bind_eq_some_iff.mp h
                  obtain ⟨⟨r17, N_17⟩, hc17, h⟩ := h
                  try dsimp only at h
                  refine am_ev_call (.invokevirtual 35) 56 6 177 [.ref 0, .int (0 : Int32), .int (0 : Int32), .int (0 : Int32)] [] rfl rfl rfl rfl (ok_fJ_make hc17 D (by omega)) rfl ?_
                  refine am_ev_st 2 (f' := am_br (r17 ≠ (5 : Int32)) 110 91 [(0, .ref 0)] [] (W9 N_17 C_11 E_11 F_11 P Q) k_11 n_11) (g := True ∧ True ∧ True) (by with_unfolding_all rfl) ⟨trivial, trivial, trivial⟩ ?_
                  by_cases c18 : r17 ≠ (5 : Int32)
                  · rw [if_pos c18] at h
                    refine am_ev_pos c18 ?_
                    refine am_ev_st 4 (f' := am_br ((0 : Int32) = 0) 170 113 [(1, .int (0 : Int32)), (0, .ref 0)] [] (W9 N_17 C_11 E_11 F_11 P Q) k_11 n_11) (g := True ∧ True ∧ True ∧ True ∧ True) (by with_unfolding_all rfl) ⟨trivial, trivial, trivial, trivial, trivial⟩ ?_
                    refine am_ev_pos (by decide) ?_
                    refine am_ev_st 4 (f' := am_br ((0 : Int32) = 0) 233 173 [(1, .int (0 : Int32)), (0, .ref 0)] [] (W9 N_17 C_11 E_11 F_11 P Q) k_11 n_11) (g := True ∧ True ∧ True ∧ True ∧ True) (by with_unfolding_all rfl) ⟨trivial, trivial, trivial, trivial, trivial⟩ ?_
                    refine am_ev_pos (by decide) ?_
                    refine am_ev_st 4 (f' := am_br ((0 : Int32) = 0) 314 236 [(1, .int (0 : Int32)), (0, .ref 0)] [] (W9 N_17 C_11 E_11 F_11 P Q) k_11 n_11) (g := True ∧ True ∧ True ∧ True ∧ True) (by with_unfolding_all rfl) ⟨trivial, trivial, trivial, trivial, trivial⟩ ?_
                    refine am_ev_pos (by decide) ?_
                    refine am_ev_st 4 (f' := am_br ((0 : Int32) = 0) 325 317 [(1, .int (0 : Int32)), (0, .ref 0)] [] (W9 N_17 C_11 E_11 F_11 P Q) k_11 n_11) (g := True ∧ True ∧ True ∧ True ∧ True) (by with_unfolding_all rfl) ⟨trivial, trivial, trivial, trivial, trivial⟩ ?_
                    refine am_ev_pos (by decide) ?_
                    refine am_ev_st 1 (f' := (326, [(1, .int (0 : Int32)), (0, .ref 0)], [.int (-1 : Int32)], (W9 N_17 C_11 E_11 F_11 P Q), k_11, n_11)) (g := True ∧ True) (by with_unfolding_all rfl) ⟨trivial, trivial⟩ ?_
                    cases h
                    exact am_ev_ret 0 0 0 rfl .int rfl rfl rfl
                  · rw [if_neg c18] at h
                    refine am_ev_neg c18 ?_
                    refine am_ev_st 4 (f' := (98, [(0, .ref 0)], [.int (0 : Int32), .int (1 : Int32), .int (0 : Int32), .ref 0], (W9 N_17 C_11 E_11 F_11 P Q), k_11, n_11)) (g := True ∧ True ∧ True ∧ True ∧ True) (by with_unfolding_all rfl) ⟨trivial, trivial, trivial, trivial, trivial⟩ ?_
                    replace h := Option.bind_eq_some_iff.mp h
                    obtain ⟨⟨r19, N_19⟩, hc19, h⟩ := h
                    try dsimp only at h
                    refine am_ev_call (.invokevirtual 35) 56 6 177 [.ref 0, .int (0 : Int32), .int (1 : Int32), .int (0 : Int32)] [] rfl rfl rfl rfl (ok_fJ_make hc19 D (by omega)) rfl ?_
                    refine am_ev_st 2 (f' := am_br (r19 ≠ (6 : Int32)) 110 103 [(0, .ref 0)] [] (W9 N_19 C_11 E_11 F_11 P Q) k_11 n_11) (g := True ∧ True ∧ True) (by with_unfolding_all rfl) ⟨trivial, trivial, trivial⟩ ?_
                    by_cases c20 : r19 ≠ (6 : Int32)
                    · rw [if_pos c20] at h
                      refine am_ev_pos c20 ?_
                      refine am_ev_st 4 (f' := am_br ((0 : Int32) = 0) 170 113 [(1, .int (0 : Int32)), (0, .ref 0)] [] (W9 N_19 C_11 E_11 F_11 P Q) k_11 n_11) (g := True ∧ True ∧ True ∧ True ∧ True) (by with_unfolding_all rfl) ⟨trivial, trivial, trivial, trivial, trivial⟩ ?_
                      refine am_ev_pos (by decide) ?_
                      refine am_ev_st 4 (f' := am_br ((0 : Int32) = 0) 233 173 [(1, .int (0 : Int32)), (0, .ref 0)] [] (W9 N_19 C_11 E_11 F_11 P Q) k_11 n_11) (g := True ∧ True ∧ True ∧ True ∧ True) (by with_unfolding_all rfl) ⟨trivial, trivial, trivial, trivial, trivial⟩ ?_
                      refine am_ev_pos (by decide) ?_
                      refine am_ev_st 4 (f' := am_br ((0 : Int32) = 0) 314 236 [(1, .int (0 : Int32)), (0, .ref 0)] [] (W9 N_19 C_11 E_11 F_11 P Q) k_11 n_11) (g := True ∧ True ∧ True ∧ True ∧ True) (by with_unfolding_all rfl) ⟨trivial, trivial, trivial, trivial, trivial⟩ ?_
                      refine am_ev_pos (by decide) ?_
                      refine am_ev_st 4 (f' := am_br ((0 : Int32) = 0) 325 317 [(1, .int (0 : Int32)), (0, .ref 0)] [] (W9 N_19 C_11 E_11 F_11 P Q) k_11 n_11) (g := True ∧ True ∧ True ∧ True ∧ True) (by with_unfolding_all rfl) ⟨trivial, trivial, trivial, trivial, trivial⟩ ?_
                      refine am_ev_pos (by decide) ?_
                      refine am_ev_st 1 (f' := (326, [(1, .int (0 : Int32)), (0, .ref 0)], [.int (-1 : Int32)], (W9 N_19 C_11 E_11 F_11 P Q), k_11, n_11)) (g := True ∧ True) (by with_unfolding_all rfl) ⟨trivial, trivial⟩ ?_
                      cases h
                      exact am_ev_ret 0 0 0 rfl .int rfl rfl rfl
                    · rw [if_neg c20] at h
                      refine am_ev_neg c20 ?_
                      refine am_ev_st 5 (f' := am_br ((1 : Int32) = 0) 170 113 [(1, .int (1 : Int32)), (0, .ref 0)] [] (W9 N_19 C_11 E_11 F_11 P Q) k_11 n_11) (g := True ∧ True ∧ True ∧ True ∧ True ∧ True) (by with_unfolding_all rfl) ⟨trivial, trivial, trivial, trivial, trivial, trivial⟩ ?_
                      refine am_ev_neg (by decide) ?_
                      refine am_ev_st 4 (f' := (120, [(1, .int (1 : Int32)), (0, .ref 0)], [.int (5 : Int32), .int (1 : Int32), .int (3 : Int32), .ref 0], (W9 N_19 C_11 E_11 F_11 P Q), k_11, n_11)) (g := True ∧ True ∧ True ∧ True ∧ True) (by with_unfolding_all rfl) ⟨trivial, trivial, trivial, trivial, trivial⟩ ?_
                      replace h := Option.bind_eq_some_iff.mp h
                      obtain ⟨⟨r21, N_21⟩, hc21, h⟩ := h
                      try dsimp only at h
                      refine am_ev_call (.invokevirtual 35) 56 6 177 [.ref 0, .int (3 : Int32), .int (1 : Int32), .int (5 : Int32)] [] rfl rfl rfl rfl (ok_fJ_make hc21 D (by omega)) rfl ?_
                      refine am_ev_st 2 (f' := am_br (r21 ≠ (7 : Int32)) 170 125 [(1, .int (1 : Int32)), (0, .ref 0)] [] (W9 N_21 C_11 E_11 F_11 P Q) k_11 n_11) (g := True ∧ True ∧ True) (by with_unfolding_all rfl) ⟨trivial, trivial, trivial⟩ ?_
                      by_cases c22 : r21 ≠ (7 : Int32)
                      · rw [if_pos c22] at h
                        refine am_ev_pos c22 ?_
                        refine am_ev_st 4 (f' := am_br ((0 : Int32) = 0) 233 173 [(1, .int (0 : Int32)), (0, .ref 0)] [] (W9 N_21 C_11 E_11 F_11 P Q) k_11 n_11) (g := True ∧ True ∧ True ∧ True ∧ True) (by with_unfolding_all rfl) ⟨trivial, trivial, trivial, trivial, trivial⟩ ?_
                        refine am_ev_pos (by decide) ?_
                        refine am_ev_st 4 (f' := am_br ((0 : Int32) = 0) 314 236 [(1, .int (0 : Int32)), (0, .ref 0)] [] (W9 N_21 C_11 E_11 F_11 P Q) k_11 n_11) (g := True ∧ True ∧ True ∧ True ∧ True) (by with_unfolding_all rfl) ⟨trivial, trivial, trivial, trivial, trivial⟩ ?_
                        refine am_ev_pos (by decide) ?_
                        refine am_ev_st 4 (f' := am_br ((0 : Int32) = 0) 325 317 [(1, .int (0 : Int32)), (0, .ref 0)] [] (W9 N_21 C_11 E_11 F_11 P Q) k_11 n_11) (g := True ∧ True ∧ True ∧ True ∧ True) (by with_unfolding_all rfl) ⟨trivial, trivial, trivial, trivial, trivial⟩ ?_
                        refine am_ev_pos (by decide) ?_
                        refine am_ev_st 1 (f' := (326, [(1, .int (0 : Int32)), (0, .ref 0)], [.int (-1 : Int32)], (W9 N_21 C_11 E_11 F_11 P Q), k_11, n_11)) (g := True ∧ True) (by with_unfolding_all rfl) ⟨trivial, trivial⟩ ?_
                        cases h
                        exact am_ev_ret 0 0 0 rfl .int rfl rfl rfl
                      · rw [if_neg c22] at h
                        refine am_ev_neg c22 ?_
                        refine am_ev_st 4 (f' := (132, [(1, .int (1 : Int32)), (0, .ref 0)], [.int (5 : Int32), .int (4 : Int32), .int (4 : Int32), .ref 0], (W9 N_21 C_11 E_11 F_11 P Q), k_11, n_11)) (g := True ∧ True ∧ True ∧ True ∧ True) (by with_unfolding_all rfl) ⟨trivial, trivial, trivial, trivial, trivial⟩ ?_
                        replace h := Option.bind_eq_some_iff.mp h
                        obtain ⟨⟨r23, N_23⟩, hc23, h⟩ := h
                        try dsimp only at h
                        refine am_ev_call (.invokevirtual 35) 56 6 177 [.ref 0, .int (4 : Int32), .int (4 : Int32), .int (5 : Int32)] [] rfl rfl rfl rfl (ok_fJ_make hc23 D (by omega)) rfl ?_
                        refine am_ev_st 2 (f' := am_br (r23 ≠ (8 : Int32)) 170 137 [(1, .int (1 : Int32)), (0, .ref 0)] [] (W9 N_23 C_11 E_11 F_11 P Q) k_11 n_11) (g := True ∧ True ∧ True) (by with_unfolding_all rfl) ⟨trivial, trivial, trivial⟩ ?_
                        by_cases c24 : r23 ≠ (8 : Int32)
                        · rw [if_pos c24] at h
                          refine am_ev_pos c24 ?_
                          refine am_ev_st 4 (f' := am_br ((0 : Int32) = 0) 233 173 [(1, .int (0 : Int32)), (0, .ref 0)] [] (W9 N_23 C_11 E_11 F_11 P Q) k_11 n_11) (g := True ∧ True ∧ True ∧ True ∧ True) (by with_unfolding_all rfl) ⟨trivial, trivial, trivial, trivial, trivial⟩ ?_
                          refine am_ev_pos (by decide) ?_
                          refine am_ev_st 4 (f' := am_br ((0 : Int32) = 0) 314 236 [(1, .int (0 : Int32)), (0, .ref 0)] [] (W9 N_23 C_11 E_11 F_11 P Q) k_11 n_11) (g := True ∧ True ∧ True ∧ True ∧ True) (by with_unfolding_all rfl) ⟨trivial, trivial, trivial, trivial, trivial⟩ ?_
                          refine am_ev_pos (by decide) ?_
                          refine am_ev_st 4 (f' := am_br ((0 : Int32) = 0) 325 317 [(1, .int (0 : Int32)), (0, .ref 0)] [] (W9 N_23 C_11 E_11 F_11 P Q) k_11 n_11) (g := True ∧ True ∧ True ∧ True ∧ True) (by with_unfolding_all rfl) ⟨trivial, trivial, trivial, trivial, trivial⟩ ?_
                          refine am_ev_pos (by decide) ?_
                          refine am_ev_st 1 (f' := (326, [(1, .int (0 : Int32)), (0, .ref 0)], [.int (-1 : Int32)], (W9 N_23 C_11 E_11 F_11 P Q), k_11, n_11)) (g := True ∧ True) (by with_unfolding_all rfl) ⟨trivial, trivial⟩ ?_
                          cases h
                          exact am_ev_ret 0 0 0 rfl .int rfl rfl rfl
                        · rw [if_neg c24] at h
                          refine am_ev_neg c24 ?_
                          refine am_ev_st 4 (f' := (145, [(1, .int (1 : Int32)), (0, .ref 0)], [.int (8 : Int32), .int (4 : Int32), .int (4 : Int32), .ref 0], (W9 N_23 C_11 E_11 F_11 P Q), k_11, n_11)) (g := True ∧ True ∧ True ∧ True ∧ True) (by with_unfolding_all rfl) ⟨trivial, trivial, trivial, trivial, trivial⟩ ?_
                          replace h := Option.bind_eq_some_iff.mp h
                          obtain ⟨⟨r25, N_25⟩, hc25, h⟩ := h
                          try dsimp only at h
                          refine am_ev_call (.invokevirtual 35) 56 6 177 [.ref 0, .int (4 : Int32), .int (4 : Int32), .int (8 : Int32)] [] rfl rfl rfl rfl (ok_fJ_make hc25 D (by omega)) rfl ?_
                          refine am_ev_st 2 (f' := am_br (r25 ≠ (9 : Int32)) 170 150 [(1, .int (1 : Int32)), (0, .ref 0)] [] (W9 N_25 C_11 E_11 F_11 P Q) k_11 n_11) (g := True ∧ True ∧ True) (by with_unfolding_all rfl) ⟨trivial, trivial, trivial⟩ ?_
                          by_cases c26 : r25 ≠ (9 : Int32)
                          · rw [if_pos c26] at h
                            refine am_ev_pos c26 ?_
                            refine am_ev_st 4 (f' := am_br ((0 : Int32) = 0) 233 173 [(1, .int (0 : Int32)), (0, .ref 0)] [] (W9 N_25 C_11 E_11 F_11 P Q) k_11 n_11) (g := True ∧ True ∧ True ∧ True ∧ True) (by with_unfolding_all rfl) ⟨trivial, trivial, trivial, trivial, trivial⟩ ?_
                            refine am_ev_pos (by decide) ?_
                            refine am_ev_st 4 (f' := am_br ((0 : Int32) = 0) 314 236 [(1, .int (0 : Int32)), (0, .ref 0)] [] (W9 N_25 C_11 E_11 F_11 P Q) k_11 n_11) (g := True ∧ True ∧ True ∧ True ∧ True) (by with_unfolding_all rfl) ⟨trivial, trivial, trivial, trivial, trivial⟩ ?_
                            refine am_ev_pos (by decide) ?_
                            refine am_ev_st 4 (f' := am_br ((0 : Int32) = 0) 325 317 [(1, .int (0 : Int32)), (0, .ref 0)] [] (W9 N_25 C_11 E_11 F_11 P Q) k_11 n_11) (g := True ∧ True ∧ True ∧ True ∧ True) (by with_unfolding_all rfl) ⟨trivial, trivial, trivial, trivial, trivial⟩ ?_
                            refine am_ev_pos (by decide) ?_
                            refine am_ev_st 1 (f' := (326, [(1, .int (0 : Int32)), (0, .ref 0)], [.int (-1 : Int32)], (W9 N_25 C_11 E_11 F_11 P Q), k_11, n_11)) (g := True ∧ True) (by with_unfolding_all rfl) ⟨trivial, trivial⟩ ?_
                            cases h
                            exact am_ev_ret 0 0 0 rfl .int rfl rfl rfl
                          · rw [if_neg c26] at h
                            refine am_ev_neg c26 ?_
                            refine am_ev_st 4 (f' := (158, [(1, .int (1 : Int32)), (0, .ref 0)], [.int (9 : Int32), .int (1 : Int32), .int (3 : Int32), .ref 0], (W9 N_25 C_11 E_11 F_11 P Q), k_11, n_11)) (g := True ∧ True ∧ True ∧ True ∧ True) (by with_unfolding_all rfl) ⟨trivial, trivial, trivial, trivial, trivial⟩ ?_
                            replace h := Option.bind_eq_some_iff.mp h
                            obtain ⟨⟨r27, N_27⟩, hc27, h⟩ := h
                            try dsimp only at h
                            refine am_ev_call (.invokevirtual 35) 56 6 177 [.ref 0, .int (3 : Int32), .int (1 : Int32), .int (9 : Int32)] [] rfl rfl rfl rfl (ok_fJ_make hc27 D (by omega)) rfl ?_
                            refine am_ev_st 2 (f' := am_br (r27 ≠ (10 : Int32)) 170 163 [(1, .int (1 : Int32)), (0, .ref 0)] [] (W9 N_27 C_11 E_11 F_11 P Q) k_11 n_11) (g := True ∧ True ∧ True) (by with_unfolding_all rfl) ⟨trivial, trivial, trivial⟩ ?_
                            by_cases c28 : r27 ≠ (10 : Int32)
                            · rw [if_pos c28] at h
                              refine am_ev_pos c28 ?_
                              refine am_ev_st 4 (f' := am_br ((0 : Int32) = 0) 233 173 [(1, .int (0 : Int32)), (0, .ref 0)] [] (W9 N_27 C_11 E_11 F_11 P Q) k_11 n_11) (g := True ∧ True ∧ True ∧ True ∧ True) (by with_unfolding_all rfl) ⟨trivial, trivial, trivial, trivial, trivial⟩ ?_
                              refine am_ev_pos (by decide) ?_
                              refine am_ev_st 4 (f' := am_br ((0 : Int32) = 0) 314 236 [(1, .int (0 : Int32)), (0, .ref 0)] [] (W9 N_27 C_11 E_11 F_11 P Q) k_11 n_11) (g := True ∧ True ∧ True ∧ True ∧ True) (by with_unfolding_all rfl) ⟨trivial, trivial, trivial, trivial, trivial⟩ ?_
                              refine am_ev_pos (by decide) ?_
                              refine am_ev_st 4 (f' := am_br ((0 : Int32) = 0) 325 317 [(1, .int (0 : Int32)), (0, .ref 0)] [] (W9 N_27 C_11 E_11 F_11 P Q) k_11 n_11) (g := True ∧ True ∧ True ∧ True ∧ True) (by with_unfolding_all rfl) ⟨trivial, trivial, trivial, trivial, trivial⟩ ?_
                              refine am_ev_pos (by decide) ?_
                              refine am_ev_st 1 (f' := (326, [(1, .int (0 : Int32)), (0, .ref 0)], [.int (-1 : Int32)], (W9 N_27 C_11 E_11 F_11 P Q), k_11, n_11)) (g := True ∧ True) (by with_unfolding_all rfl) ⟨trivial, trivial⟩ ?_
                              cases h
                              exact am_ev_ret 0 0 0 rfl .int rfl rfl rfl
                            · rw [if_neg c28] at h
                              refine am_ev_neg c28 ?_
                              refine am_ev_st 5 (f' := am_br ((1 : Int32) = 0) 233 173 [(1, .int (1 : Int32)), (0, .ref 0)] [] (W9 N_27 C_11 E_11 F_11 P Q) k_11 n_11) (g := True ∧ True ∧ True ∧ True ∧ True ∧ True) (by with_unfolding_all rfl) ⟨trivial, trivial, trivial, trivial, trivial, trivial⟩ ?_
                              refine am_ev_neg (by decide) ?_
                              refine am_ev_st 4 (f' := (181, [(1, .int (1 : Int32)), (0, .ref 0)], [.int (5 : Int32), .int (6 : Int32), .int (4 : Int32), .ref 0], (W9 N_27 C_11 E_11 F_11 P Q), k_11, n_11)) (g := True ∧ True ∧ True ∧ True ∧ True) (by with_unfolding_all rfl) ⟨trivial, trivial, trivial, trivial, trivial⟩ ?_
                              replace h := Option.bind_eq_some_iff.mp h
                              obtain ⟨⟨r29, N_29⟩, hc29, h⟩ := h
                              try dsimp only at h
                              refine am_ev_call (.invokevirtual 35) 56 6 177 [.ref 0, .int (4 : Int32), .int (6 : Int32), .int (5 : Int32)] [] rfl rfl rfl rfl (ok_fJ_make hc29 D (by omega)) rfl ?_
                              refine am_ev_st 2 (f' := am_br (r29 ≠ (11 : Int32)) 233 186 [(1, .int (1 : Int32)), (0, .ref 0)] [] (W9 N_29 C_11 E_11 F_11 P Q) k_11 n_11) (g := True ∧ True ∧ True) (by with_unfolding_all rfl) ⟨trivial, trivial, trivial⟩ ?_
                              by_cases c30 : r29 ≠ (11 : Int32)
                              · rw [if_pos c30] at h
                                refine am_ev_pos c30 ?_
                                refine am_ev_st 4 (f' := am_br ((0 : Int32) = 0) 314 236 [(1, .int (0 : Int32)), (0, .ref 0)] [] (W9 N_29 C_11 E_11 F_11 P Q) k_11 n_11) (g := True ∧ True ∧ True ∧ True ∧ True) (by with_unfolding_all rfl) ⟨trivial, trivial, trivial, trivial, trivial⟩ ?_
                                refine am_ev_pos (by decide) ?_
                                refine am_ev_st 4 (f' := am_br ((0 : Int32) = 0) 325 317 [(1, .int (0 : Int32)), (0, .ref 0)] [] (W9 N_29 C_11 E_11 F_11 P Q) k_11 n_11) (g := True ∧ True ∧ True ∧ True ∧ True) (by with_unfolding_all rfl) ⟨trivial, trivial, trivial, trivial, trivial⟩ ?_
                                refine am_ev_pos (by decide) ?_
                                refine am_ev_st 1 (f' := (326, [(1, .int (0 : Int32)), (0, .ref 0)], [.int (-1 : Int32)], (W9 N_29 C_11 E_11 F_11 P Q), k_11, n_11)) (g := True ∧ True) (by with_unfolding_all rfl) ⟨trivial, trivial⟩ ?_
                                cases h
                                exact am_ev_ret 0 0 0 rfl .int rfl rfl rfl
                              · rw [if_neg c30] at h
                                refine am_ev_neg c30 ?_
                                refine am_ev_st 4 (f' := (195, [(1, .int (1 : Int32)), (0, .ref 0)], [.int (11 : Int32), .int (6 : Int32), .int (4 : Int32), .ref 0], (W9 N_29 C_11 E_11 F_11 P Q), k_11, n_11)) (g := True ∧ True ∧ True ∧ True ∧ True) (by with_unfolding_all rfl) ⟨trivial, trivial, trivial, trivial, trivial⟩ ?_
                                replace h := Option.bind_eq_some_iff.mp h
                                obtain ⟨⟨r31, N_31⟩, hc31, h⟩ := h
                                try dsimp only at h
                                refine am_ev_call (.invokevirtual 35) 56 6 177 [.ref 0, .int (4 : Int32), .int (6 : Int32), .int (11 : Int32)] [] rfl rfl rfl rfl (ok_fJ_make hc31 D (by omega)) rfl ?_
                                refine am_ev_st 2 (f' := am_br (r31 ≠ (12 : Int32)) 233 200 [(1, .int (1 : Int32)), (0, .ref 0)] [] (W9 N_31 C_11 E_11 F_11 P Q) k_11 n_11) (g := True ∧ True ∧ True) (by with_unfolding_all rfl) ⟨trivial, trivial, trivial⟩ ?_
                                by_cases c32 : r31 ≠ (12 : Int32)
                                · rw [if_pos c32] at h
                                  refine am_ev_pos c32 ?_
                                  refine am_ev_st 4 (f' := am_br ((0 : Int32) = 0) 314 236 [(1, .int (0 : Int32)), (0, .ref 0)] [] (W9 N_31 C_11 E_11 F_11 P Q) k_11 n_11) (g := True ∧ True ∧ True ∧ True ∧ True) (by with_unfolding_all rfl) ⟨trivial, trivial, trivial, trivial, trivial⟩ ?_
                                  refine am_ev_pos (by decide) ?_
                                  refine am_ev_st 4 (f' := am_br ((0 : Int32) = 0) 325 317 [(1, .int (0 : Int32)), (0, .ref 0)] [] (W9 N_31 C_11 E_11 F_11 P Q) k_11 n_11) (g := True ∧ True ∧ True ∧ True ∧ True) (by with_unfolding_all rfl) ⟨trivial, trivial, trivial, trivial, trivial⟩ ?_
                                  refine am_ev_pos (by decide) ?_
                                  refine am_ev_st 1 (f' := (326, [(1, .int (0 : Int32)), (0, .ref 0)], [.int (-1 : Int32)], (W9 N_31 C_11 E_11 F_11 P Q), k_11, n_11)) (g := True ∧ True) (by with_unfolding_all rfl) ⟨trivial, trivial⟩ ?_
                                  cases h
                                  exact am_ev_ret 0 0 0 rfl .int rfl rfl rfl
                                · rw [if_neg c32] at h
                                  refine am_ev_neg c32 ?_
                                  refine am_ev_st 4 (f' := (208, [(1, .int (1 : Int32)), (0, .ref 0)], [.int (12 : Int32), .int (1 : Int32), .int (3 : Int32), .ref 0], (W9 N_31 C_11 E_11 F_11 P Q), k_11, n_11)) (g := True ∧ True ∧ True ∧ True ∧ True) (by with_unfolding_all rfl) ⟨trivial, trivial, trivial, trivial, trivial⟩ ?_
                                  replace h := Option.bind_eq_some_iff.mp h
                                  obtain ⟨⟨r33, N_33⟩, hc33, h⟩ := h
                                  try dsimp only at h
                                  refine am_ev_call (.invokevirtual 35) 56 6 177 [.ref 0, .int (3 : Int32), .int (1 : Int32), .int (12 : Int32)] [] rfl rfl rfl rfl (ok_fJ_make hc33 D (by omega)) rfl ?_
                                  refine am_ev_st 2 (f' := am_br (r33 ≠ (13 : Int32)) 233 213 [(1, .int (1 : Int32)), (0, .ref 0)] [] (W9 N_33 C_11 E_11 F_11 P Q) k_11 n_11) (g := True ∧ True ∧ True) (by with_unfolding_all rfl) ⟨trivial, trivial, trivial⟩ ?_
                                  by_cases c34 : r33 ≠ (13 : Int32)
                                  · rw [if_pos c34] at h
                                    refine am_ev_pos c34 ?_
                                    refine am_ev_st 4 (f' := am_br ((0 : Int32) = 0) 314 236 [(1, .int (0 : Int32)), (0, .ref 0)] [] (W9 N_33 C_11 E_11 F_11 P Q) k_11 n_11) (g := True ∧ True ∧ True ∧ True ∧ True) (by with_unfolding_all rfl) ⟨trivial, trivial, trivial, trivial, trivial⟩ ?_
                                    refine am_ev_pos (by decide) ?_
                                    refine am_ev_st 4 (f' := am_br ((0 : Int32) = 0) 325 317 [(1, .int (0 : Int32)), (0, .ref 0)] [] (W9 N_33 C_11 E_11 F_11 P Q) k_11 n_11) (g := True ∧ True ∧ True ∧ True ∧ True) (by with_unfolding_all rfl) ⟨trivial, trivial, trivial, trivial, trivial⟩ ?_
                                    refine am_ev_pos (by decide) ?_
                                    refine am_ev_st 1 (f' := (326, [(1, .int (0 : Int32)), (0, .ref 0)], [.int (-1 : Int32)], (W9 N_33 C_11 E_11 F_11 P Q), k_11, n_11)) (g := True ∧ True) (by with_unfolding_all rfl) ⟨trivial, trivial⟩ ?_
                                    cases h
                                    exact am_ev_ret 0 0 0 rfl .int rfl rfl rfl
                                  · rw [if_neg c34] at h
                                    refine am_ev_neg c34 ?_
                                    refine am_ev_st 4 (f' := (221, [(1, .int (1 : Int32)), (0, .ref 0)], [.int (13 : Int32), .int (2 : Int32), .int (3 : Int32), .ref 0], (W9 N_33 C_11 E_11 F_11 P Q), k_11, n_11)) (g := True ∧ True ∧ True ∧ True ∧ True) (by with_unfolding_all rfl) ⟨trivial, trivial, trivial, trivial, trivial⟩ ?_
                                    replace h := Option.bind_eq_some_iff.mp h
                                    obtain ⟨⟨r35, N_35⟩, hc35, h⟩ := h
                                    try dsimp only at h
                                    refine am_ev_call (.invokevirtual 35) 56 6 177 [.ref 0, .int (3 : Int32), .int (2 : Int32), .int (13 : Int32)] [] rfl rfl rfl rfl (ok_fJ_make hc35 D (by omega)) rfl ?_
                                    refine am_ev_st 2 (f' := am_br (r35 ≠ (14 : Int32)) 233 226 [(1, .int (1 : Int32)), (0, .ref 0)] [] (W9 N_35 C_11 E_11 F_11 P Q) k_11 n_11) (g := True ∧ True ∧ True) (by with_unfolding_all rfl) ⟨trivial, trivial, trivial⟩ ?_
                                    by_cases c36 : r35 ≠ (14 : Int32)
                                    · rw [if_pos c36] at h
                                      refine am_ev_pos c36 ?_
                                      refine am_ev_st 4 (f' := am_br ((0 : Int32) = 0) 314 236 [(1, .int (0 : Int32)), (0, .ref 0)] [] (W9 N_35 C_11 E_11 F_11 P Q) k_11 n_11) (g := True ∧ True ∧ True ∧ True ∧ True) (by with_unfolding_all rfl) ⟨trivial, trivial, trivial, trivial, trivial⟩ ?_
                                      refine am_ev_pos (by decide) ?_
                                      refine am_ev_st 4 (f' := am_br ((0 : Int32) = 0) 325 317 [(1, .int (0 : Int32)), (0, .ref 0)] [] (W9 N_35 C_11 E_11 F_11 P Q) k_11 n_11) (g := True ∧ True ∧ True ∧ True ∧ True) (by with_unfolding_all rfl) ⟨trivial, trivial, trivial, trivial, trivial⟩ ?_
                                      refine am_ev_pos (by decide) ?_
                                      refine am_ev_st 1 (f' := (326, [(1, .int (0 : Int32)), (0, .ref 0)], [.int (-1 : Int32)], (W9 N_35 C_11 E_11 F_11 P Q), k_11, n_11)) (g := True ∧ True) (by with_unfolding_all rfl) ⟨trivial, trivial⟩ ?_
                                      cases h
                                      exact am_ev_ret 0 0 0 rfl .int rfl rfl rfl
                                    · rw [if_neg c36] at h
                                      refine am_ev_neg c36 ?_
                                      refine am_ev_st 5 (f' := am_br ((1 : Int32) = 0) 314 236 [(1, .int (1 : Int32)), (0, .ref 0)] [] (W9 N_35 C_11 E_11 F_11 P Q) k_11 n_11) (g := True ∧ True ∧ True ∧ True ∧ True ∧ True) (by with_unfolding_all rfl) ⟨trivial, trivial, trivial, trivial, trivial, trivial⟩ ?_
                                      refine am_ev_neg (by decide) ?_
                                      refine am_ev_st 4 (f' := (243, [(1, .int (1 : Int32)), (0, .ref 0)], [.int (5 : Int32), .int (5 : Int32), .int (3 : Int32), .ref 0], (W9 N_35 C_11 E_11 F_11 P Q), k_11, n_11)) (g := True ∧ True ∧ True ∧ True ∧ True) (by with_unfolding_all rfl) ⟨trivial, trivial, trivial, trivial, trivial⟩ ?_
                                      replace h := Option.bind_eq_some_iff.mp h
                                      obtain ⟨⟨r37, N_37⟩, hc37, h⟩ := h
                                      try dsimp only at h
                                      refine am_ev_call (.invokevirtual 35) 56 6 177 [.ref 0, .int (3 : Int32), .int (5 : Int32), .int (5 : Int32)] [] rfl rfl rfl rfl (ok_fJ_make hc37 D (by omega)) rfl ?_
                                      refine am_ev_st 2 (f' := am_br (r37 ≠ (15 : Int32)) 314 248 [(1, .int (1 : Int32)), (0, .ref 0)] [] (W9 N_37 C_11 E_11 F_11 P Q) k_11 n_11) (g := True ∧ True ∧ True) (by with_unfolding_all rfl) ⟨trivial, trivial, trivial⟩ ?_
                                      by_cases c38 : r37 ≠ (15 : Int32)
                                      · rw [if_pos c38] at h
                                        refine am_ev_pos c38 ?_
                                        refine am_ev_st 4 (f' := am_br ((0 : Int32) = 0) 325 317 [(1, .int (0 : Int32)), (0, .ref 0)] [] (W9 N_37 C_11 E_11 F_11 P Q) k_11 n_11) (g := True ∧ True ∧ True ∧ True ∧ True) (by with_unfolding_all rfl) ⟨trivial, trivial, trivial, trivial, trivial⟩ ?_
                                        refine am_ev_pos (by decide) ?_
                                        refine am_ev_st 1 (f' := (326, [(1, .int (0 : Int32)), (0, .ref 0)], [.int (-1 : Int32)], (W9 N_37 C_11 E_11 F_11 P Q), k_11, n_11)) (g := True ∧ True) (by with_unfolding_all rfl) ⟨trivial, trivial⟩ ?_
                                        cases h
                                        exact am_ev_ret 0 0 0 rfl .int rfl rfl rfl
                                      · rw [if_neg c38] at h
                                        refine am_ev_neg c38 ?_
                                        refine am_ev_st 4 (f' := (256, [(1, .int (1 : Int32)), (0, .ref 0)], [.int (15 : Int32), .int (0 : Int32), .int (3 : Int32), .ref 0], (W9 N_37 C_11 E_11 F_11 P Q), k_11, n_11)) (g := True ∧ True ∧ True ∧ True ∧ True) (by with_unfolding_all rfl) ⟨trivial, trivial, trivial, trivial, trivial⟩ ?_
                                        replace h := Option.bind_eq_some_iff.mp h
                                        obtain ⟨⟨r39, N_39⟩, hc39, h⟩ := h
                                        try dsimp only at h
                                        refine am_ev_call (.invokevirtual 35) 56 6 177 [.ref 0, .int (3 : Int32), .int (0 : Int32), .int (15 : Int32)] [] rfl rfl rfl rfl (ok_fJ_make hc39 D (by omega)) rfl ?_
                                        refine am_ev_st 2 (f' := am_br (r39 ≠ (16 : Int32)) 314 261 [(1, .int (1 : Int32)), (0, .ref 0)] [] (W9 N_39 C_11 E_11 F_11 P Q) k_11 n_11) (g := True ∧ True ∧ True) (by with_unfolding_all rfl) ⟨trivial, trivial, trivial⟩ ?_
                                        by_cases c40 : r39 ≠ (16 : Int32)
                                        · rw [if_pos c40] at h
                                          refine am_ev_pos c40 ?_
                                          refine am_ev_st 4 (f' := am_br ((0 : Int32) = 0) 325 317 [(1, .int (0 : Int32)), (0, .ref 0)] [] (W9 N_39 C_11 E_11 F_11 P Q) k_11 n_11) (g := True ∧ True ∧ True ∧ True ∧ True) (by with_unfolding_all rfl) ⟨trivial, trivial, trivial, trivial, trivial⟩ ?_
                                          refine am_ev_pos (by decide) ?_
                                          refine am_ev_st 1 (f' := (326, [(1, .int (0 : Int32)), (0, .ref 0)], [.int (-1 : Int32)], (W9 N_39 C_11 E_11 F_11 P Q), k_11, n_11)) (g := True ∧ True) (by with_unfolding_all rfl) ⟨trivial, trivial⟩ ?_
                                          cases h
                                          exact am_ev_ret 0 0 0 rfl .int rfl rfl rfl
                                        · rw [if_neg c40] at h
                                          refine am_ev_neg c40 ?_
                                          refine am_ev_st 3 (f' := (268, [(1, .int (1 : Int32)), (0, .ref 0)], [.int (0 : Int32), .int (14 : Int32), .ref 0], (W9 N_39 C_11 E_11 F_11 P Q), k_11, n_11)) (g := True ∧ True ∧ True ∧ True) (by with_unfolding_all rfl) ⟨trivial, trivial, trivial, trivial⟩ ?_
                                          replace h := Option.bind_eq_some_iff.mp h
                                          obtain ⟨⟨r41, N_41, C_41, E_41, F_41, Q_41, ⟨k_41, n_41⟩⟩, hc41, h⟩ := h
                                          try dsimp only at h
                                          refine am_ev_call (.invokestatic 44) 79 6 597 [.ref 0, .int (14 : Int32), .int (0 : Int32)] [] rfl rfl rfl rfl (ok_fL_define hc41 D (by omega)) rfl ?_
                                          refine am_ev_st 2 (f' := am_br (r41 ≠ (3 : Int32)) 314 272 [(1, .int (1 : Int32)), (0, .ref 0)] [] (W9 N_41 C_41 E_41 F_41 P Q_41) k_41 n_41) (g := True ∧ True ∧ True) (by with_unfolding_all rfl) ⟨trivial, trivial, trivial⟩ ?_
                                          by_cases c42 : r41 ≠ (3 : Int32)
                                          · rw [if_pos c42] at h
                                            refine am_ev_pos c42 ?_
                                            refine am_ev_st 4 (f' := am_br ((0 : Int32) = 0) 325 317 [(1, .int (0 : Int32)), (0, .ref 0)] [] (W9 N_41 C_41 E_41 F_41 P Q_41) k_41 n_41) (g := True ∧ True ∧ True ∧ True ∧ True) (by with_unfolding_all rfl) ⟨trivial, trivial, trivial, trivial, trivial⟩ ?_
                                            refine am_ev_pos (by decide) ?_
                                            refine am_ev_st 1 (f' := (326, [(1, .int (0 : Int32)), (0, .ref 0)], [.int (-1 : Int32)], (W9 N_41 C_41 E_41 F_41 P Q_41), k_41, n_41)) (g := True ∧ True) (by with_unfolding_all rfl) ⟨trivial, trivial⟩ ?_
                                            cases h
                                            exact am_ev_ret 0 0 0 rfl .int rfl rfl rfl
                                          · rw [if_neg c42] at h
                                            refine am_ev_neg c42 ?_
                                            refine am_ev_st 4 (f' := (279, [(1, .int (1 : Int32)), (0, .ref 0)], [.int (0 : Int32), .int (3 : Int32), .int (5 : Int32), .ref 0], (W9 N_41 C_41 E_41 F_41 P Q_41), k_41, n_41)) (g := True ∧ True ∧ True ∧ True ∧ True) (by with_unfolding_all rfl) ⟨trivial, trivial, trivial, trivial, trivial⟩ ?_
                                            replace h := Option.bind_eq_some_iff.mp h
                                            obtain ⟨⟨r43, N_43⟩, hc43, h⟩ := h
                                            try dsimp only at h
                                            refine am_ev_call (.invokevirtual 35) 56 6 177 [.ref 0, .int (5 : Int32), .int (3 : Int32), .int (0 : Int32)] [] rfl rfl rfl rfl (ok_fJ_make hc43 D (by omega)) rfl ?_
                                            refine am_ev_st 2 (f' := am_br (r43 ≠ (17 : Int32)) 314 284 [(1, .int (1 : Int32)), (0, .ref 0)] [] (W9 N_43 C_41 E_41 F_41 P Q_41) k_41 n_41) (g := True ∧ True ∧ True) (by with_unfolding_all rfl) ⟨trivial, trivial, trivial⟩ ?_
                                            by_cases c44 : r43 ≠ (17 : Int32)
                                            · rw [if_pos c44] at h
                                              refine am_ev_pos c44 ?_
                                              refine am_ev_st 4 (f' := am_br ((0 : Int32) = 0) 325 317 [(1, .int (0 : Int32)), (0, .ref 0)] [] (W9 N_43 C_41 E_41 F_41 P Q_41) k_41 n_41) (g := True ∧ True ∧ True ∧ True ∧ True) (by with_unfolding_all rfl) ⟨trivial, trivial, trivial, trivial, trivial⟩ ?_
                                              refine am_ev_pos (by decide) ?_
                                              refine am_ev_st 1 (f' := (326, [(1, .int (0 : Int32)), (0, .ref 0)], [.int (-1 : Int32)], (W9 N_43 C_41 E_41 F_41 P Q_41), k_41, n_41)) (g := True ∧ True) (by with_unfolding_all rfl) ⟨trivial, trivial⟩ ?_
                                              cases h
                                              exact am_ev_ret 0 0 0 rfl .int rfl rfl rfl
                                            · rw [if_neg c44] at h
                                              refine am_ev_neg c44 ?_
                                              refine am_ev_st 3 (f' := (291, [(1, .int (1 : Int32)), (0, .ref 0)], [.int (0 : Int32), .int (10 : Int32), .ref 0], (W9 N_43 C_41 E_41 F_41 P Q_41), k_41, n_41)) (g := True ∧ True ∧ True ∧ True) (by with_unfolding_all rfl) ⟨trivial, trivial, trivial, trivial⟩ ?_
                                              replace h := Option.bind_eq_some_iff.mp h
                                              obtain ⟨⟨r45, N_45, C_45, E_45, F_45, Q_45, ⟨k_45, n_45⟩⟩, hc45, h⟩ := h
                                              try dsimp only at h
                                              refine am_ev_call (.invokestatic 44) 79 6 597 [.ref 0, .int (10 : Int32), .int (0 : Int32)] [] rfl rfl rfl rfl (ok_fL_define hc45 D (by omega)) rfl ?_
                                              refine am_ev_st 2 (f' := am_br (r45 ≠ (4 : Int32)) 314 295 [(1, .int (1 : Int32)), (0, .ref 0)] [] (W9 N_45 C_45 E_45 F_45 P Q_45) k_45 n_45) (g := True ∧ True ∧ True) (by with_unfolding_all rfl) ⟨trivial, trivial, trivial⟩ ?_
                                              by_cases c46 : r45 ≠ (4 : Int32)
                                              · rw [if_pos c46] at h
                                                refine am_ev_pos c46 ?_
                                                refine am_ev_st 4 (f' := am_br ((0 : Int32) = 0) 325 317 [(1, .int (0 : Int32)), (0, .ref 0)] [] (W9 N_45 C_45 E_45 F_45 P Q_45) k_45 n_45) (g := True ∧ True ∧ True ∧ True ∧ True) (by with_unfolding_all rfl) ⟨trivial, trivial, trivial, trivial, trivial⟩ ?_
                                                refine am_ev_pos (by decide) ?_
                                                refine am_ev_st 1 (f' := (326, [(1, .int (0 : Int32)), (0, .ref 0)], [.int (-1 : Int32)], (W9 N_45 C_45 E_45 F_45 P Q_45), k_45, n_45)) (g := True ∧ True) (by with_unfolding_all rfl) ⟨trivial, trivial⟩ ?_
                                                cases h
                                                exact am_ev_ret 0 0 0 rfl .int rfl rfl rfl
                                              · rw [if_neg c46] at h
                                                refine am_ev_neg c46 ?_
                                                refine am_ev_st 4 (f' := (302, [(1, .int (1 : Int32)), (0, .ref 0)], [.int (0 : Int32), .int (4 : Int32), .int (5 : Int32), .ref 0], (W9 N_45 C_45 E_45 F_45 P Q_45), k_45, n_45)) (g := True ∧ True ∧ True ∧ True ∧ True) (by with_unfolding_all rfl) ⟨trivial, trivial, trivial, trivial, trivial⟩ ?_
                                                replace h := Option.bind_eq_some_iff.mp h
                                                obtain ⟨⟨r47, N_47⟩, hc47, h⟩ := h
                                                try dsimp only at h
                                                refine am_ev_call (.invokevirtual 35) 56 6 177 [.ref 0, .int (5 : Int32), .int (4 : Int32), .int (0 : Int32)] [] rfl rfl rfl rfl (ok_fJ_make hc47 D (by omega)) rfl ?_
                                                refine am_ev_st 2 (f' := am_br (r47 ≠ (18 : Int32)) 314 307 [(1, .int (1 : Int32)), (0, .ref 0)] [] (W9 N_47 C_45 E_45 F_45 P Q_45) k_45 n_45) (g := True ∧ True ∧ True) (by with_unfolding_all rfl) ⟨trivial, trivial, trivial⟩ ?_
                                                by_cases c48 : r47 ≠ (18 : Int32)
                                                · rw [if_pos c48] at h
                                                  refine am_ev_pos c48 ?_
                                                  refine am_ev_st 4 (f' := am_br ((0 : Int32) = 0) 325 317 [(1, .int (0 : Int32)), (0, .ref 0)] [] (W9 N_47 C_45 E_45 F_45 P Q_45) k_45 n_45) (g := True ∧ True ∧ True ∧ True ∧ True) (by with_unfolding_all rfl) ⟨trivial, trivial, trivial, trivial, trivial⟩ ?_
                                                  refine am_ev_pos (by decide) ?_
                                                  refine am_ev_st 1 (f' := (326, [(1, .int (0 : Int32)), (0, .ref 0)], [.int (-1 : Int32)], (W9 N_47 C_45 E_45 F_45 P Q_45), k_45, n_45)) (g := True ∧ True) (by with_unfolding_all rfl) ⟨trivial, trivial⟩ ?_
                                                  cases h
                                                  exact am_ev_ret 0 0 0 rfl .int rfl rfl rfl
                                                · rw [if_neg c48] at h
                                                  refine am_ev_neg c48 ?_
                                                  refine am_ev_st 5 (f' := am_br ((1 : Int32) = 0) 325 317 [(1, .int (1 : Int32)), (0, .ref 0)] [] (W9 N_47 C_45 E_45 F_45 P Q_45) k_45 n_45) (g := True ∧ True ∧ True ∧ True ∧ True ∧ True) (by with_unfolding_all rfl) ⟨trivial, trivial, trivial, trivial, trivial, trivial⟩ ?_
                                                  refine am_ev_neg (by decide) ?_
                                                  refine am_ev_st 2 (f' := (326, [(1, .int (1 : Int32)), (0, .ref 0)], [.int (19 : Int32)], (W9 N_47 C_45 E_45 F_45 P Q_45), k_45, n_45)) (g := True ∧ True ∧ True) (by with_unfolding_all rfl) ⟨trivial, trivial, trivial⟩ ?_
                                                  cases h
                                                  exact am_ev_ret 0 0 0 rfl .int rfl rfl rfl
