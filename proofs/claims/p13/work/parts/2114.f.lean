def lp_fM_hasTooGreat_Q_2 (fl : Nat) : Nat → cQ → Int32 → Int32 → Option (Bool)
  | 0, _, _, _ => none
  | w + 1, Q, v1, v2 =>
    match Q with
    | (qr, ql, qx) =>
    if ql ≤ v2 then
    (some false)
    else
    (fM_at_Q Q v2).bind fun z2 =>
    match z2 with
    | (r2) =>
    if (r2 - r2 / (10 : Int32) * (10 : Int32)) ≠ v1 then
    (lp_fM_hasTooGreat_Q_2 fl w Q v1 (v2 + (1 : Int32)))
    else
    (fM_at_Q Q v2).bind fun z4 =>
    match z4 with
    | (r4) =>
    if (r4 / (10 : Int32)) ≤ (9 : Int32) then
    (lp_fM_hasTooGreat_Q_2 fl w Q v1 (v2 + (1 : Int32)))
    else
    some true
def fM_hasTooGreat_Q (fl : Nat) (Q : cQ) (p1 : Int32) : Option (Bool) :=
  lp_fM_hasTooGreat_Q_2 fl fl Q p1 (0 : Int32)
set_option maxHeartbeats 4000000 in
set_option maxRecDepth 100000 in
theorem ok_lp_fM_hasTooGreat_Q_2 {fl : Nat} : ∀ {w : Nat} {N : cN} {C : cC} {E : cE} {F : cF} {P : cP} {Q : cQ} {T : cT} {G : cG} {U : cU} {H : cH} {B : cB} {O : cO} {J : cJ} {V : cV} {Y : cY} {Z : cZ} {O9 : cO9} {k n : Nat} {v1 : Int32} {v2 : Int32} {rv : Bool} (h : lp_fM_hasTooGreat_Q_2 fl w Q v1 v2 = some rv) (D : Nat) (hD : 1 ≤ D), am_Ev D 20 0 (fun _ => 0) (2, [(0, .ref 17), (1, .int v1), (2, .int v2)], [], (W9 N C E F P Q T G U H B O J V Y Z O9), k, n) (.inl (some (.int (am_bz rv))), W9 N C E F P Q T G U H B O J V Y Z O9, k, n) := by
  intro w
  induction w with
  | zero => intros; rename_i h _ _; cases h
  | succ w ih0 =>
    intro N C E F P Q T G U H B O J V Y Z O9 k n v1 v2 rv h D hD
    have ih := fun {N} {C} {E} {F} {P} {Q} {T} {G} {U} {H} {B} {O} {J} {V} {Y} {Z} {O9} {k} {n} {v1} {v2} {rv} h => @ih0 N C E F P Q T G U H B O J V Y Z O9 k n v1 v2 rv h D hD
    unfold lp_fM_hasTooGreat_Q_2 at h
    obtain ⟨qr, ql, qx⟩ := Q
    try dsimp only at h
    refine am_ev_st 4 (f' := am_br (ql ≤ v2) 43 7 [(0, .ref 17), (1, .int v1), (2, .int v2)] [] (W9 N C E F P (qr, ql, qx) T G U H B O J V Y Z O9) k n) (g := True ∧ True ∧ True ∧ True ∧ True) (by with_unfolding_all rfl) ⟨trivial, trivial, trivial, trivial, trivial⟩ ?_
    by_cases c1 : ql ≤ v2
    · rw [if_pos c1] at h
      refine am_ev_pos c1 ?_
      refine am_ev_st 1 (f' := (44, [(0, .ref 17), (1, .int v1), (2, .int v2)], [.int (0 : Int32)], (W9 N C E F P (qr, ql, qx) T G U H B O J V Y Z O9), k, n)) (g := True ∧ True) (by with_unfolding_all rfl) ⟨trivial, trivial⟩ ?_
      cases h
      exact am_ev_ret 0 0 0 rfl .boolean rfl am_n0 rfl
    · rw [if_neg c1] at h
      refine am_ev_neg c1 ?_
      refine am_ev_st 2 (f' := (12, [(0, .ref 17), (1, .int v1), (2, .int v2)], [.int v2, .ref 17], (W9 N C E F P (qr, ql, qx) T G U H B O J V Y Z O9), k, n)) (g := True ∧ True ∧ True) (by with_unfolding_all rfl) ⟨trivial, trivial, trivial⟩ ?_
      replace h := Option.bind_eq_some_iff.mp h
      obtain ⟨r2, hc2, h⟩ := h
      try dsimp only at h
      refine am_ev_call (.invokevirtual 22) 19 2 333 [.ref 17, .int v2] [] rfl rfl rfl rfl (ok_fM_at_Q hc2 D (by omega)) rfl ?_
      refine am_ev_st 4 (f' := am_br ((r2 - r2 / (10 : Int32) * (10 : Int32)) ≠ v1) 37 19 [(0, .ref 17), (1, .int v1), (2, .int v2)] [] (W9 N C E F P (qr, ql, qx) T G U H B O J V Y Z O9) k n) (g := True ∧ ¬ ((10 : Int32) = 0) ∧ True ∧ True ∧ True) (by with_unfolding_all rfl) ⟨trivial, by decide, trivial, trivial, trivial⟩ ?_
      by_cases c3 : (r2 - r2 / (10 : Int32) * (10 : Int32)) ≠ v1
      · rw [if_pos c3] at h
        refine am_ev_pos c3 ?_
        refine am_ev_st 2 (f' := (2, [(2, .int (v2 + (1 : Int32))), (0, .ref 17), (1, .int v1)], [], (W9 N C E F P (qr, ql, qx) T G U H B O J V Y Z O9), k, n)) (g := True ∧ True ∧ True) (by with_unfolding_all rfl) ⟨trivial, trivial, trivial⟩ ?_
        refine am_ev_drop [1, 2, 0] rfl rfl ?_
        exact ih h
      · rw [if_neg c3] at h
        refine am_ev_neg c3 ?_
        refine am_ev_st 2 (f' := (24, [(0, .ref 17), (1, .int v1), (2, .int v2)], [.int v2, .ref 17], (W9 N C E F P (qr, ql, qx) T G U H B O J V Y Z O9), k, n)) (g := True ∧ True ∧ True) (by with_unfolding_all rfl) ⟨trivial, trivial, trivial⟩ ?_
        replace h := Option.bind_eq_some_iff.mp h
        obtain ⟨r4, hc4, h⟩ := h
        try dsimp only at h
        refine am_ev_call (.invokevirtual 22) 19 2 333 [.ref 17, .int v2] [] rfl rfl rfl rfl (ok_fM_at_Q hc4 D (by omega)) rfl ?_
        refine am_ev_st 4 (f' := am_br ((r4 / (10 : Int32)) ≤ (9 : Int32)) 37 32 [(0, .ref 17), (1, .int v1), (2, .int v2)] [] (W9 N C E F P (qr, ql, qx) T G U H B O J V Y Z O9) k n) (g := True ∧ ¬ ((10 : Int32) = 0) ∧ True ∧ True ∧ True) (by with_unfolding_all rfl) ⟨trivial, by decide, trivial, trivial, trivial⟩ ?_
        by_cases c5 : (r4 / (10 : Int32)) ≤ (9 : Int32)
        · rw [if_pos c5] at h
          refine am_ev_pos c5 ?_
          refine am_ev_st 2 (f' := (2, [(2, .int (v2 + (1 : Int32))), (0, .ref 17), (1, .int v1)], [], (W9 N C E F P (qr, ql, qx) T G U H B O J V Y Z O9), k, n)) (g := True ∧ True ∧ True) (by with_unfolding_all rfl) ⟨trivial, trivial, trivial⟩ ?_
          refine am_ev_drop [1, 2, 0] rfl rfl ?_
          exact ih h
        · rw [if_neg c5] at h
          refine am_ev_neg c5 ?_
          refine am_ev_st 1 (f' := (36, [(0, .ref 17), (1, .int v1), (2, .int v2)], [.int (1 : Int32)], (W9 N C E F P (qr, ql, qx) T G U H B O J V Y Z O9), k, n)) (g := True ∧ True) (by with_unfolding_all rfl) ⟨trivial, trivial⟩ ?_
          cases h
          exact am_ev_ret 0 0 0 rfl .boolean rfl am_n1 rfl
set_option maxHeartbeats 4000000 in
set_option maxRecDepth 100000 in
theorem ok_fM_hasTooGreat_Q {fl : Nat} {N : cN} {C : cC} {E : cE} {F : cF} {P : cP} {Q : cQ} {T : cT} {G : cG} {U : cU} {H : cH} {B : cB} {O : cO} {J : cJ} {V : cV} {Y : cY} {Z : cZ} {O9 : cO9} {k n : Nat} {p1 : Int32} {rv : Bool} (h : fM_hasTooGreat_Q fl Q p1 = some rv) (D : Nat) (hD : 2 ≤ D) : am_Call D 20 [.ref 17, .int p1] (W9 N C E F P Q T G U H B O J V Y Z O9) k n (.inl (some (.int (am_bz rv))), W9 N C E F P Q T G U H B O J V Y Z O9, k, n) := by
  unfold fM_hasTooGreat_Q at h
  obtain ⟨D, rfl⟩ : ∃ D', D = D' + 1 := ⟨D - 1, by omega⟩
  have hD : 1 ≤ D := by omega
  refine am_call_run (by decide) (by decide) rfl (Nat.le_of_ble_eq_true rfl) (by decide) (L := [(0, .ref 17), (1, .int p1)]) rfl ?_
  refine am_ev_st 2 (f' := (2, [(2, .int (0 : Int32)), (0, .ref 17), (1, .int p1)], [], (W9 N C E F P Q T G U H B O J V Y Z O9), k, n)) (g := True ∧ True ∧ True) (by with_unfolding_all rfl) ⟨trivial, trivial, trivial⟩ ?_
  refine am_ev_drop [1, 2, 0] rfl rfl ?_
  exact ok_lp_fM_hasTooGreat_Q_2 h D hD
def fM_writeNode_Q : Nat → cN → cQ → Int32 → Option (cQ)
  | 0, _, _, _ => none
  | d + 1, N, Q, p2 =>
    match Q with
    | (qr, ql, qx) =>
    if ql < 0 then
    (some Q)
    else
    if ql < (60 : Int32) then
    ((fN_kindOf N p2).bind fun z3 =>
    match z3 with
    | (r3) =>
    (fJ_hasParts r3).bind fun z4 =>
    match z4 with
    | (r4) =>
    if (am_bz r4) = 0 then
    ((fN_leftOf N p2).bind fun z6 =>
    match z6 with
    | (r6) =>
    if (ql < 0 ∨ 60 ≤ (ql).toNatClampNeg) then none else
    (fJ_hasParts r3).bind fun z8 =>
    match z8 with
    | (r8) =>
    if (am_bz r8) = 0 then
    (some ((upd qr (ql).toNatClampNeg (r3 + ((10 : Int32) * r6))), (ql + (1 : Int32)), qx))
    else
    (fN_leftOf N p2).bind fun z10 =>
    match z10 with
    | (r10) =>
    (fM_writeNode_Q d N ((upd qr (ql).toNatClampNeg (r3 + ((10 : Int32) * r6))), (ql + (1 : Int32)), qx) r10).bind fun z11 =>
    match z11 with
    | (Q_11) =>
    (fN_rightOf N p2).bind fun z12 =>
    match z12 with
    | (r12) =>
    (fM_writeNode_Q d N Q_11 r12).bind fun z13 =>
    match z13 with
    | (Q_13) =>
    some Q_13)
    else
    if (ql < 0 ∨ 60 ≤ (ql).toNatClampNeg) then none else
    (fJ_hasParts r3).bind fun z15 =>
    match z15 with
    | (r15) =>
    if (am_bz r15) = 0 then
    (some ((upd qr (ql).toNatClampNeg r3), (ql + (1 : Int32)), qx))
    else
    (fN_leftOf N p2).bind fun z17 =>
    match z17 with
    | (r17) =>
    (fM_writeNode_Q d N ((upd qr (ql).toNatClampNeg r3), (ql + (1 : Int32)), qx) r17).bind fun z18 =>
    match z18 with
    | (Q_18) =>
    (fN_rightOf N p2).bind fun z19 =>
    match z19 with
    | (r19) =>
    (fM_writeNode_Q d N Q_18 r19).bind fun z20 =>
    match z20 with
    | (Q_20) =>
    some Q_20)
    else
    some Q
set_option maxHeartbeats 4000000 in
set_option maxRecDepth 100000 in
theorem ok_fM_writeNode_Q  : ∀ {d : Nat} {N : cN} {C : cC} {E : cE} {F : cF} {P : cP} {Q : cQ} {T : cT} {G : cG} {U : cU} {H : cH} {B : cB} {O : cO} {J : cJ} {V : cV} {Y : cY} {Z : cZ} {O9 : cO9} {k n : Nat} {p2 : Int32} {Q' : cQ} (h : fM_writeNode_Q d N Q p2 = some Q') (D : Nat) (hD : d + 1 ≤ D), am_Call D 22 [.ref 17, .ref 1, .int p2] (W9 N C E F P Q T G U H B O J V Y Z O9) k n (.inl none, W9 N C E F P Q' T G U H B O J V Y Z O9, k, n) := by
  intro d
  induction d with
  | zero => intros; rename_i h _ _; cases h
  | succ d ih0 =>
    intro N C E F P Q T G U H B O J V Y Z O9 k n p2 Q' h D hD
    have ih := fun {N} {C} {E} {F} {P} {Q} {T} {G} {U} {H} {B} {O} {J} {V} {Y} {Z} {O9} {k} {n} {p2} {Q'} h D hD => @ih0 N C E F P Q T G U H B O J V Y Z O9 k n p2 Q' h D hD
    unfold fM_writeNode_Q at h
    obtain ⟨D, rfl⟩ : ∃ D', D = D' + 1 := ⟨D - 1, by omega⟩
    refine am_call_run (by decide) (by decide) rfl (Nat.le_of_ble_eq_true rfl) (by decide) (L := [(0, .ref 17), (1, .ref 1), (2, .int p2)]) rfl ?_
    obtain ⟨qr, ql, qx⟩ := Q
    try dsimp only at h
    refine am_ev_st 3 (f' := am_br (ql < 0) 16 4 [(0, .ref 17), (1, .ref 1), (2, .int p2)] [] (W9 N C E F P (qr, ql, qx) T G U H B O J V Y Z O9) k n) (g := True ∧ True ∧ True ∧ True) (by with_unfolding_all rfl) ⟨trivial, trivial, trivial, trivial⟩ ?_
    by_cases c1 : ql < 0
    · rw [if_pos c1] at h
      refine am_ev_pos c1 ?_
      cases h
      exact am_ev_vret 0 0 0 rfl rfl rfl
    · rw [if_neg c1] at h
      refine am_ev_neg c1 ?_
      refine am_ev_st 4 (f' := am_br (ql < (60 : Int32)) 17 13 [(0, .ref 17), (1, .ref 1), (2, .int p2)] [] (W9 N C E F P (qr, ql, qx) T G U H B O J V Y Z O9) k n) (g := True ∧ True ∧ True ∧ True ∧ True) (by with_unfolding_all rfl) ⟨trivial, trivial, trivial, trivial, trivial⟩ ?_
      by_cases c2 : ql < (60 : Int32)
      · rw [if_pos c2] at h
        refine am_ev_pos c2 ?_
        refine am_ev_st 2 (f' := (19, [(0, .ref 17), (1, .ref 1), (2, .int p2)], [.int p2, .ref 1], (W9 N C E F P (qr, ql, qx) T G U H B O J V Y Z O9), k, n)) (g := True ∧ True ∧ True) (by with_unfolding_all rfl) ⟨trivial, trivial, trivial⟩ ?_
        replace h := Option.bind_eq_some_iff.mp h
        obtain ⟨r3, hc3, h⟩ := h
        try dsimp only at h
        refine am_ev_call (.invokevirtual 30) 28 2 309 [.ref 1, .int p2] [] rfl rfl rfl rfl (ok_fN_kindOf hc3 D (by omega)) rfl ?_
        refine am_ev_st 6 (f' := (32, [(3, .int r3), (0, .ref 17), (1, .ref 1), (2, .int p2)], [.int r3, .int ql, .ref 18], (W9 N C E F P (qr, ql, qx) T G U H B O J V Y Z O9), k, n)) (g := True ∧ True ∧ True ∧ True ∧ True ∧ True ∧ True) (by with_unfolding_all rfl) ⟨trivial, trivial, trivial, trivial, trivial, trivial, trivial⟩ ?_
        replace h := Option.bind_eq_some_iff.mp h
        obtain ⟨r4, hc4, h⟩ := h
        try dsimp only at h
        refine am_ev_call (.invokestatic 35) 71 3 310 [.int r3] [.int ql, .ref 18] rfl rfl rfl rfl (ok_fJ_hasParts hc4 D (by omega)) rfl ?_
        refine am_ev_st 1 (f' := am_br ((am_bz r4) = 0) 42 35 [(3, .int r3), (0, .ref 17), (1, .ref 1), (2, .int p2)] [.int ql, .ref 18] (W9 N C E F P (qr, ql, qx) T G U H B O J V Y Z O9) k n) (g := True ∧ True) (by with_unfolding_all rfl) ⟨trivial, trivial⟩ ?_
        by_cases c5 : (am_bz r4) = 0
        · rw [if_pos c5] at h
          refine am_ev_pos c5 ?_
          refine am_ev_st 4 (f' := (47, [(3, .int r3), (0, .ref 17), (1, .ref 1), (2, .int p2)], [.int p2, .ref 1, .int (10 : Int32), .int r3, .int ql, .ref 18], (W9 N C E F P (qr, ql, qx) T G U H B O J V Y Z O9), k, n)) (g := True ∧ True ∧ True ∧ True ∧ True) (by with_unfolding_all rfl) ⟨trivial, trivial, trivial, trivial, trivial⟩ ?_
          replace h := Option.bind_eq_some_iff.mp h
          obtain ⟨r6, hc6, h⟩ := h
          try dsimp only at h
          refine am_ev_call (.invokevirtual 39) 29 2 311 [.ref 1, .int p2] [.int (10 : Int32), .int r3, .int ql, .ref 18] rfl rfl rfl rfl (ok_fN_leftOf hc6 D (by omega)) rfl ?_
          by_cases g7 : (ql < 0 ∨ 60 ≤ (ql).toNatClampNeg)
          · rw [if_pos g7] at h; cases h
          rw [if_neg g7] at h
          refine am_ev_st 10 (f' := (64, [(3, .int r3), (0, .ref 17), (1, .ref 1), (2, .int p2)], [.int r3], (W9 N C E F P ((upd qr (ql).toNatClampNeg (r3 + ((10 : Int32) * r6))), (ql + (1 : Int32)), qx) T G U H B O J V Y Z O9), k, n)) (g := True ∧ True ∧ vp_in (ql) 60 ∧ True ∧ True ∧ True ∧ True ∧ True ∧ True ∧ True ∧ True) (by with_unfolding_all rfl) ⟨trivial, trivial, g7, trivial, trivial, trivial, trivial, trivial, trivial, trivial, trivial⟩ ?_
          replace h := Option.bind_eq_some_iff.mp h
          obtain ⟨r8, hc8, h⟩ := h
          try dsimp only at h
          refine am_ev_call (.invokestatic 35) 71 3 310 [.int r3] [] rfl rfl rfl rfl (ok_fJ_hasParts hc8 D (by omega)) rfl ?_
          refine am_ev_st 1 (f' := am_br ((am_bz r8) = 0) 90 67 [(3, .int r3), (0, .ref 17), (1, .ref 1), (2, .int p2)] [] (W9 N C E F P ((upd qr (ql).toNatClampNeg (r3 + ((10 : Int32) * r6))), (ql + (1 : Int32)), qx) T G U H B O J V Y Z O9) k n) (g := True ∧ True) (by with_unfolding_all rfl) ⟨trivial, trivial⟩ ?_
          by_cases c9 : (am_bz r8) = 0
          · rw [if_pos c9] at h
            refine am_ev_pos c9 ?_
            cases h
            exact am_ev_vret 0 0 0 rfl rfl rfl
          · rw [if_neg c9] at h
            refine am_ev_neg c9 ?_
            refine am_ev_st 4 (f' := (74, [(3, .int r3), (0, .ref 17), (1, .ref 1), (2, .int p2)], [.int p2, .ref 1, .ref 1, .ref 17], (W9 N C E F P ((upd qr (ql).toNatClampNeg (r3 + ((10 : Int32) * r6))), (ql + (1 : Int32)), qx) T G U H B O J V Y Z O9), k, n)) (g := True ∧ True ∧ True ∧ True ∧ True) (by with_unfolding_all rfl) ⟨trivial, trivial, trivial, trivial, trivial⟩ ?_
            replace h := Option.bind_eq_some_iff.mp h
            obtain ⟨r10, hc10, h⟩ := h
            try dsimp only at h
            refine am_ev_call (.invokevirtual 39) 29 2 311 [.ref 1, .int p2] [.ref 1, .ref 17] rfl rfl rfl rfl (ok_fN_leftOf hc10 D (by omega)) rfl ?_
            replace h := Option.bind_eq_some_iff.mp h
            obtain ⟨Q_11, hc11, h⟩ := h
            try dsimp only at h
            refine am_ev_call (.invokevirtual 26) 22 4 305 [.ref 17, .ref 1, .int r10] [] rfl rfl rfl rfl (ih hc11 D (by omega)) rfl ?_
            refine am_ev_st 4 (f' := (84, [(3, .int r3), (0, .ref 17), (1, .ref 1), (2, .int p2)], [.int p2, .ref 1, .ref 1, .ref 17], (W9 N C E F P Q_11 T G U H B O J V Y Z O9), k, n)) (g := True ∧ True ∧ True ∧ True ∧ True) (by with_unfolding_all rfl) ⟨trivial, trivial, trivial, trivial, trivial⟩ ?_
            replace h := Option.bind_eq_some_iff.mp h
            obtain ⟨r12, hc12, h⟩ := h
            try dsimp only at h
            refine am_ev_call (.invokevirtual 42) 30 2 312 [.ref 1, .int p2] [.ref 1, .ref 17] rfl rfl rfl rfl (ok_fN_rightOf hc12 D (by omega)) rfl ?_
            replace h := Option.bind_eq_some_iff.mp h
            obtain ⟨Q_13, hc13, h⟩ := h
            try dsimp only at h
            refine am_ev_call (.invokevirtual 26) 22 4 305 [.ref 17, .ref 1, .int r12] [] rfl rfl rfl rfl (ih hc13 D (by omega)) rfl ?_
            cases h
            exact am_ev_vret 0 0 0 rfl rfl rfl
        · rw [if_neg c5] at h
          refine am_ev_neg c5 ?_
          by_cases g14 : (ql < 0 ∨ 60 ≤ (ql).toNatClampNeg)
          · rw [if_pos g14] at h; cases h
          rw [if_neg g14] at h
          refine am_ev_st 10 (f' := (64, [(3, .int r3), (0, .ref 17), (1, .ref 1), (2, .int p2)], [.int r3], (W9 N C E F P ((upd qr (ql).toNatClampNeg r3), (ql + (1 : Int32)), qx) T G U H B O J V Y Z O9), k, n)) (g := True ∧ True ∧ vp_in (ql) 60 ∧ True ∧ True ∧ True ∧ True ∧ True ∧ True ∧ True ∧ True) (by with_unfolding_all rfl) ⟨trivial, trivial, g14, trivial, trivial, trivial, trivial, trivial, trivial, trivial, trivial⟩ ?_
          replace h := Option.bind_eq_some_iff.mp h
          obtain ⟨r15, hc15, h⟩ := h
          try dsimp only at h
          refine am_ev_call (.invokestatic 35) 71 3 310 [.int r3] [] rfl rfl rfl rfl (ok_fJ_hasParts hc15 D (by omega)) rfl ?_
          refine am_ev_st 1 (f' := am_br ((am_bz r15) = 0) 90 67 [(3, .int r3), (0, .ref 17), (1, .ref 1), (2, .int p2)] [] (W9 N C E F P ((upd qr (ql).toNatClampNeg r3), (ql + (1 : Int32)), qx) T G U H B O J V Y Z O9) k n) (g := True ∧ True) (by with_unfolding_all rfl) ⟨trivial, trivial⟩ ?_
          by_cases c16 : (am_bz r15) = 0
          · rw [if_pos c16] at h
            refine am_ev_pos c16 ?_
            cases h
            exact am_ev_vret 0 0 0 rfl rfl rfl
          · rw [if_neg c16] at h
            refine am_ev_neg c16 ?_
            refine am_ev_st 4 (f' := (74, [(3, .int r3), (0, .ref 17), (1, .ref 1), (2, .int p2)], [.int p2, .ref 1, .ref 1, .ref 17], (W9 N C E F P ((upd qr (ql).toNatClampNeg r3), (ql + (1 : Int32)), qx) T G U H B O J V Y Z O9), k, n)) (g := True ∧ True ∧ True ∧ True ∧ True) (by with_unfolding_all rfl) ⟨trivial, trivial, trivial, trivial, trivial⟩ ?_
            replace h := Option.bind_eq_some_iff.mp h
            obtain ⟨r17, hc17, h⟩ := h
            try dsimp only at h
            refine am_ev_call (.invokevirtual 39) 29 2 311 [.ref 1, .int p2] [.ref 1, .ref 17] rfl rfl rfl rfl (ok_fN_leftOf hc17 D (by omega)) rfl ?_
            replace h := Option.bind_eq_some_iff.mp h
            obtain ⟨Q_18, hc18, h⟩ := h
            try dsimp only at h
            refine am_ev_call (.invokevirtual 26) 22 4 305 [.ref 17, .ref 1, .int r17] [] rfl rfl rfl rfl (ih hc18 D (by omega)) rfl ?_
            refine am_ev_st 4 (f' := (84, [(3, .int r3), (0, .ref 17), (1, .ref 1), (2, .int p2)], [.int p2, .ref 1, .ref 1, .ref 17], (W9 N C E F P Q_18 T G U H B O J V Y Z O9), k, n)) (g := True ∧ True ∧ True ∧ True ∧ True) (by with_unfolding_all rfl) ⟨trivial, trivial, trivial, trivial, trivial⟩ ?_
            replace h := Option.bind_eq_some_iff.mp h
            obtain ⟨r19, hc19, h⟩ := h
            try dsimp only at h
            refine am_ev_call (.invokevirtual 42) 30 2 312 [.ref 1, .int p2] [.ref 1, .ref 17] rfl rfl rfl rfl (ok_fN_rightOf hc19 D (by omega)) rfl ?_
            replace h := Option.bind_eq_some_iff.mp h
            obtain ⟨Q_20, hc20, h⟩ := h
            try dsimp only at h
            refine am_ev_call (.invokevirtual 26) 22 4 305 [.ref 17, .ref 1, .int r19] [] rfl rfl rfl rfl (ih hc20 D (by omega)) rfl ?_
            cases h
            exact am_ev_vret 0 0 0 rfl rfl rfl
      · rw [if_neg c2] at h
        refine am_ev_neg c2 ?_
        cases h
        exact am_ev_vret 0 0 0 rfl rfl rfl
def fM_write_Q (d : Nat) (N : cN) (Q : cQ) (p2 : Int32) : Option (Int32 × cQ) :=
  match Q with
  | (qr, ql, qx) =>
  (fM_writeNode_Q d N (qr, (0 : Int32), qx) p2).bind fun z1 =>
  match z1 with
  | (Q_1) =>
  match Q_1 with
  | (qr_1, ql_1, qx_1) =>
  some (ql_1, Q_1)
set_option maxHeartbeats 4000000 in
set_option maxRecDepth 100000 in
theorem ok_fM_write_Q {d : Nat} {N : cN} {C : cC} {E : cE} {F : cF} {P : cP} {Q : cQ} {T : cT} {G : cG} {U : cU} {H : cH} {B : cB} {O : cO} {J : cJ} {V : cV} {Y : cY} {Z : cZ} {O9 : cO9} {k n : Nat} {p2 : Int32} {rv : Int32} {Q' : cQ} (h : fM_write_Q d N Q p2 = some (rv, Q')) (D : Nat) (hD : d + 2 ≤ D) : am_Call D 21 [.ref 17, .ref 1, .int p2] (W9 N C E F P Q T G U H B O J V Y Z O9) k n (.inl (some (.int rv)), W9 N C E F P Q' T G U H B O J V Y Z O9, k, n) := by
  unfold fM_write_Q at h
  obtain ⟨D, rfl⟩ : ∃ D', D = D' + 1 := ⟨D - 1, by omega⟩
  have hD : d + 1 ≤ D := by omega
  refine am_call_run (by decide) (by decide) rfl (Nat.le_of_ble_eq_true rfl) (by decide) (L := [(0, .ref 17), (1, .ref 1), (2, .int p2)]) rfl ?_
  obtain ⟨qr, ql, qx⟩ := Q
  try dsimp only at h
  refine am_ev_st 6 (f' := (8, [(0, .ref 17), (1, .ref 1), (2, .int p2)], [.int p2, .ref 1, .ref 17], (W9 N C E F P (qr, (0 : Int32), qx) T G U H B O J V Y Z O9), k, n)) (g := True ∧ True ∧ True ∧ True ∧ True ∧ True ∧ True) (by with_unfolding_all rfl) ⟨trivial, trivial, trivial, trivial, trivial, trivial, trivial⟩ ?_
  replace h := Option.bind_eq_some_iff.mp h
  obtain ⟨Q_1, hc1, h⟩ := h
  try dsimp only at h
  refine am_ev_call (.invokevirtual 26) 22 4 305 [.ref 17, .ref 1, .int p2] [] rfl rfl rfl rfl (ok_fM_writeNode_Q hc1 D (by omega)) rfl ?_
  obtain ⟨qr_1, ql_1, qx_1⟩ := Q_1
  try dsimp only at h
  refine am_ev_st 2 (f' := (15, [(0, .ref 17), (1, .ref 1), (2, .int p2)], [.int ql_1], (W9 N C E F P (qr_1, ql_1, qx_1) T G U H B O J V Y Z O9), k, n)) (g := True ∧ True ∧ True) (by with_unfolding_all rfl) ⟨trivial, trivial, trivial⟩ ?_
  cases h
  exact am_ev_ret 0 0 0 rfl .int rfl rfl rfl
def fN_addTerm (N : cN) (p1 p2 p3 : Int32) : Option (Int32 × cN) :=
  match N with
  | (nK, nL, nR, nS, nD, cap, mt, le, en) =>
  if mt < (120 : Int32) then
  ((fN_fill N mt p1 p2 p3).bind fun z2 =>
  match z2 with
  | (N_2) =>
  match N_2 with
  | (nK_2, nL_2, nR_2, nS_2, nD_2, cap_2, mt_2, le_2, en_2) =>
  some (((mt_2 + (1 : Int32)) - (1 : Int32)), (nK_2, nL_2, nR_2, nS_2, nD_2, cap_2, (mt_2 + (1 : Int32)), le_2, en_2)))
  else
  some ((-1 : Int32), N)
set_option maxHeartbeats 4000000 in
set_option maxRecDepth 100000 in
theorem ok_fN_addTerm  {N : cN} {C : cC} {E : cE} {F : cF} {P : cP} {Q : cQ} {T : cT} {G : cG} {U : cU} {H : cH} {B : cB} {O : cO} {J : cJ} {V : cV} {Y : cY} {Z : cZ} {O9 : cO9} {k n : Nat} {p1 p2 p3 : Int32} {rv : Int32} {N' : cN} (h : fN_addTerm N p1 p2 p3 = some (rv, N')) (D : Nat) (hD : 2 ≤ D) : am_Call D 35 [.ref 1, .int p1, .int p2, .int p3] (W9 N C E F P Q T G U H B O J V Y Z O9) k n (.inl (some (.int rv)), W9 N' C E F P Q T G U H B O J V Y Z O9, k, n) := by
  unfold fN_addTerm at h
  obtain ⟨D, rfl⟩ : ∃ D', D = D' + 1 := ⟨D - 1, by omega⟩
  have hD : 1 ≤ D := by omega
  refine am_call_run (by decide) (by decide) rfl (Nat.le_of_ble_eq_true rfl) (by decide) (L := [(0, .ref 1), (1, .int p1), (2, .int p2), (3, .int p3)]) rfl ?_
  obtain ⟨nK, nL, nR, nS, nD, cap, mt, le, en⟩ := N
  try dsimp only at h
  refine am_ev_st 4 (f' := am_br (mt < (120 : Int32)) 11 6 [(0, .ref 1), (1, .int p1), (2, .int p2), (3, .int p3)] [] (W9 (nK, nL, nR, nS, nD, cap, mt, le, en) C E F P Q T G U H B O J V Y Z O9) k n) (g := True ∧ True ∧ True ∧ True ∧ True) (by with_unfolding_all rfl) ⟨trivial, trivial, trivial, trivial, trivial⟩ ?_
  by_cases c1 : mt < (120 : Int32)
  · rw [if_pos c1] at h
    refine am_ev_pos c1 ?_
    refine am_ev_st 6 (f' := (19, [(0, .ref 1), (1, .int p1), (2, .int p2), (3, .int p3)], [.int p3, .int p2, .int p1, .int mt, .ref 1], (W9 (nK, nL, nR, nS, nD, cap, mt, le, en) C E F P Q T G U H B O J V Y Z O9), k, n)) (g := True ∧ True ∧ True ∧ True ∧ True ∧ True ∧ True) (by with_unfolding_all rfl) ⟨trivial, trivial, trivial, trivial, trivial, trivial, trivial⟩ ?_
    replace h := Option.bind_eq_some_iff.mp h
    obtain ⟨N_2, hc2, h⟩ := h
    try dsimp only at h
    refine am_ev_call (.invokevirtual 50) 39 8 246 [.ref 1, .int mt, .int p1, .int p2, .int p3] [] rfl rfl rfl rfl (ok_fN_fill hc2 D (by omega)) rfl ?_
    obtain ⟨nK_2, nL_2, nR_2, nS_2, nD_2, cap_2, mt_2, le_2, en_2⟩ := N_2
    try dsimp only at h
    refine am_ev_st 10 (f' := (38, [(0, .ref 1), (1, .int p1), (2, .int p2), (3, .int p3)], [.int ((mt_2 + (1 : Int32)) - (1 : Int32))], (W9 (nK_2, nL_2, nR_2, nS_2, nD_2, cap_2, (mt_2 + (1 : Int32)), le_2, en_2) C E F P Q T G U H B O J V Y Z O9), k, n)) (g := True ∧ True ∧ True ∧ True ∧ True ∧ True ∧ True ∧ True ∧ True ∧ True ∧ True) (by with_unfolding_all rfl) ⟨trivial, trivial, trivial, trivial, trivial, trivial, trivial, trivial, trivial, trivial, trivial⟩ ?_
    cases h
    exact am_ev_ret 0 0 0 rfl .int rfl rfl rfl
  · rw [if_neg c1] at h
    refine am_ev_neg c1 ?_
    refine am_ev_st 1 (f' := (10, [(0, .ref 1), (1, .int p1), (2, .int p2), (3, .int p3)], [.int (-1 : Int32)], (W9 (nK, nL, nR, nS, nD, cap, mt, le, en) C E F P Q T G U H B O J V Y Z O9), k, n)) (g := True ∧ True) (by with_unfolding_all rfl) ⟨trivial, trivial⟩ ?_
    cases h
    exact am_ev_ret 0 0 0 rfl .int rfl rfl rfl
def lp_fN_termLike_3 (fl : Nat) : Nat → cN → Int32 → Int32 → Int32 → Int32 → Option (Int32 × cN)
  | 0, _, _, _, _, _ => none
  | w + 1, N, v1, v2, v3, v4 =>
    match N with
    | (nK, nL, nR, nS, nD, cap, mt, le, en) =>
    if mt ≤ v4 then
    ((fN_addTerm N v1 v2 v3).bind fun z2 =>
    match z2 with
    | (r2, N_2) =>
    some (r2, N_2))
    else
    (fN_kindOf N v4).bind fun z3 =>
    match z3 with
    | (r3) =>
    if r3 ≠ v1 then
    (lp_fN_termLike_3 fl w N v1 v2 v3 (v4 + (1 : Int32)))
    else
    (fN_leftOf N v4).bind fun z5 =>
    match z5 with
    | (r5) =>
    if r5 ≠ v2 then
    (lp_fN_termLike_3 fl w N v1 v2 v3 (v4 + (1 : Int32)))
    else
    (fN_rightOf N v4).bind fun z7 =>
    match z7 with
    | (r7) =>
    if r7 ≠ v3 then
    (lp_fN_termLike_3 fl w N v1 v2 v3 (v4 + (1 : Int32)))
    else
    some (v4, N)
def fN_termLike (fl : Nat) (N : cN) (p1 p2 p3 : Int32) : Option (Int32 × cN) :=
  lp_fN_termLike_3 fl fl N p1 p2 p3 (0 : Int32)
set_option maxHeartbeats 4000000 in
set_option maxRecDepth 100000 in
theorem ok_lp_fN_termLike_3 {fl : Nat} : ∀ {w : Nat} {N : cN} {C : cC} {E : cE} {F : cF} {P : cP} {Q : cQ} {T : cT} {G : cG} {U : cU} {H : cH} {B : cB} {O : cO} {J : cJ} {V : cV} {Y : cY} {Z : cZ} {O9 : cO9} {k n : Nat} {v1 : Int32} {v2 : Int32} {v3 : Int32} {v4 : Int32} {rv : Int32} {N' : cN} (h : lp_fN_termLike_3 fl w N v1 v2 v3 v4 = some (rv, N')) (D : Nat) (hD : 2 ≤ D), am_Ev D 36 0 (fun _ => 0) (3, [(0, .ref 1), (1, .int v1), (2, .int v2), (3, .int v3), (4, .int v4)], [], (W9 N C E F P Q T G U H B O J V Y Z O9), k, n) (.inl (some (.int rv)), W9 N' C E F P Q T G U H B O J V Y Z O9, k, n) := by
  intro w
  induction w with
  | zero => intros; rename_i h _ _; cases h
  | succ w ih0 =>
    intro N C E F P Q T G U H B O J V Y Z O9 k n v1 v2 v3 v4 rv N' h D hD
    have ih := fun {N} {C} {E} {F} {P} {Q} {T} {G} {U} {H} {B} {O} {J} {V} {Y} {Z} {O9} {k} {n} {v1} {v2} {v3} {v4} {rv} {N'} h => @ih0 N C E F P Q T G U H B O J V Y Z O9 k n v1 v2 v3 v4 rv N' h D hD
    unfold lp_fN_termLike_3 at h
    obtain ⟨nK, nL, nR, nS, nD, cap, mt, le, en⟩ := N
    try dsimp only at h
    refine am_ev_st 4 (f' := am_br (mt ≤ v4) 51 9 [(0, .ref 1), (1, .int v1), (2, .int v2), (3, .int v3), (4, .int v4)] [] (W9 (nK, nL, nR, nS, nD, cap, mt, le, en) C E F P Q T G U H B O J V Y Z O9) k n) (g := True ∧ True ∧ True ∧ True ∧ True) (by with_unfolding_all rfl) ⟨trivial, trivial, trivial, trivial, trivial⟩ ?_
    by_cases c1 : mt ≤ v4
    · rw [if_pos c1] at h
      refine am_ev_pos c1 ?_
      refine am_ev_st 4 (f' := (55, [(0, .ref 1), (1, .int v1), (2, .int v2), (3, .int v3), (4, .int v4)], [.int v3, .int v2, .int v1, .ref 1], (W9 (nK, nL, nR, nS, nD, cap, mt, le, en) C E F P Q T G U H B O J V Y Z O9), k, n)) (g := True ∧ True ∧ True ∧ True ∧ True) (by with_unfolding_all rfl) ⟨trivial, trivial, trivial, trivial, trivial⟩ ?_
      replace h := Option.bind_eq_some_iff.mp h
      obtain ⟨⟨r2, N_2⟩, hc2, h⟩ := h
      try dsimp only at h
      refine am_ev_call (.invokevirtual 63) 35 6 349 [.ref 1, .int v1, .int v2, .int v3] [] rfl rfl rfl rfl (ok_fN_addTerm hc2 D (by omega)) rfl ?_
      cases h
      exact am_ev_ret 0 0 0 rfl .int rfl rfl rfl
    · rw [if_neg c1] at h
      refine am_ev_neg c1 ?_
      refine am_ev_st 2 (f' := (15, [(0, .ref 1), (1, .int v1), (2, .int v2), (3, .int v3), (4, .int v4)], [.int v4, .ref 1], (W9 (nK, nL, nR, nS, nD, cap, mt, le, en) C E F P Q T G U H B O J V Y Z O9), k, n)) (g := True ∧ True ∧ True) (by with_unfolding_all rfl) ⟨trivial, trivial, trivial⟩ ?_
      replace h := Option.bind_eq_some_iff.mp h
      obtain ⟨r3, hc3, h⟩ := h
      try dsimp only at h
      refine am_ev_call (.invokevirtual 54) 28 2 346 [.ref 1, .int v4] [] rfl rfl rfl rfl (ok_fN_kindOf hc3 D (by omega)) rfl ?_
      refine am_ev_st 2 (f' := am_br (r3 ≠ v1) 45 19 [(0, .ref 1), (1, .int v1), (2, .int v2), (3, .int v3), (4, .int v4)] [] (W9 (nK, nL, nR, nS, nD, cap, mt, le, en) C E F P Q T G U H B O J V Y Z O9) k n) (g := True ∧ True ∧ True) (by with_unfolding_all rfl) ⟨trivial, trivial, trivial⟩ ?_
      by_cases c4 : r3 ≠ v1
      · rw [if_pos c4] at h
        refine am_ev_pos c4 ?_
        refine am_ev_st 2 (f' := (3, [(4, .int (v4 + (1 : Int32))), (0, .ref 1), (1, .int v1), (2, .int v2), (3, .int v3)], [], (W9 (nK, nL, nR, nS, nD, cap, mt, le, en) C E F P Q T G U H B O J V Y Z O9), k, n)) (g := True ∧ True ∧ True) (by with_unfolding_all rfl) ⟨trivial, trivial, trivial⟩ ?_
        refine am_ev_drop [1, 2, 3, 4, 0] rfl rfl ?_
        exact ih h
      · rw [if_neg c4] at h
        refine am_ev_neg c4 ?_
        refine am_ev_st 2 (f' := (25, [(0, .ref 1), (1, .int v1), (2, .int v2), (3, .int v3), (4, .int v4)], [.int v4, .ref 1], (W9 (nK, nL, nR, nS, nD, cap, mt, le, en) C E F P Q T G U H B O J V Y Z O9), k, n)) (g := True ∧ True ∧ True) (by with_unfolding_all rfl) ⟨trivial, trivial, trivial⟩ ?_
        replace h := Option.bind_eq_some_iff.mp h
        obtain ⟨r5, hc5, h⟩ := h
        try dsimp only at h
        refine am_ev_call (.invokevirtual 57) 29 2 347 [.ref 1, .int v4] [] rfl rfl rfl rfl (ok_fN_leftOf hc5 D (by omega)) rfl ?_
        refine am_ev_st 2 (f' := am_br (r5 ≠ v2) 45 29 [(0, .ref 1), (1, .int v1), (2, .int v2), (3, .int v3), (4, .int v4)] [] (W9 (nK, nL, nR, nS, nD, cap, mt, le, en) C E F P Q T G U H B O J V Y Z O9) k n) (g := True ∧ True ∧ True) (by with_unfolding_all rfl) ⟨trivial, trivial, trivial⟩ ?_
        by_cases c6 : r5 ≠ v2
        · rw [if_pos c6] at h
          refine am_ev_pos c6 ?_
          refine am_ev_st 2 (f' := (3, [(4, .int (v4 + (1 : Int32))), (0, .ref 1), (1, .int v1), (2, .int v2), (3, .int v3)], [], (W9 (nK, nL, nR, nS, nD, cap, mt, le, en) C E F P Q T G U H B O J V Y Z O9), k, n)) (g := True ∧ True ∧ True) (by with_unfolding_all rfl) ⟨trivial, trivial, trivial⟩ ?_
          refine am_ev_drop [1, 2, 3, 4, 0] rfl rfl ?_
          exact ih h
        · rw [if_neg c6] at h
          refine am_ev_neg c6 ?_
          refine am_ev_st 2 (f' := (35, [(0, .ref 1), (1, .int v1), (2, .int v2), (3, .int v3), (4, .int v4)], [.int v4, .ref 1], (W9 (nK, nL, nR, nS, nD, cap, mt, le, en) C E F P Q T G U H B O J V Y Z O9), k, n)) (g := True ∧ True ∧ True) (by with_unfolding_all rfl) ⟨trivial, trivial, trivial⟩ ?_
          replace h := Option.bind_eq_some_iff.mp h
          obtain ⟨r7, hc7, h⟩ := h
          try dsimp only at h
          refine am_ev_call (.invokevirtual 60) 30 2 348 [.ref 1, .int v4] [] rfl rfl rfl rfl (ok_fN_rightOf hc7 D (by omega)) rfl ?_
          refine am_ev_st 2 (f' := am_br (r7 ≠ v3) 45 39 [(0, .ref 1), (1, .int v1), (2, .int v2), (3, .int v3), (4, .int v4)] [] (W9 (nK, nL, nR, nS, nD, cap, mt, le, en) C E F P Q T G U H B O J V Y Z O9) k n) (g := True ∧ True ∧ True) (by with_unfolding_all rfl) ⟨trivial, trivial, trivial⟩ ?_
          by_cases c8 : r7 ≠ v3
          · rw [if_pos c8] at h
            refine am_ev_pos c8 ?_
            refine am_ev_st 2 (f' := (3, [(4, .int (v4 + (1 : Int32))), (0, .ref 1), (1, .int v1), (2, .int v2), (3, .int v3)], [], (W9 (nK, nL, nR, nS, nD, cap, mt, le, en) C E F P Q T G U H B O J V Y Z O9), k, n)) (g := True ∧ True ∧ True) (by with_unfolding_all rfl) ⟨trivial, trivial, trivial⟩ ?_
            refine am_ev_drop [1, 2, 3, 4, 0] rfl rfl ?_
            exact ih h
          · rw [if_neg c8] at h
            refine am_ev_neg c8 ?_
            refine am_ev_st 1 (f' := (44, [(0, .ref 1), (1, .int v1), (2, .int v2), (3, .int v3), (4, .int v4)], [.int v4], (W9 (nK, nL, nR, nS, nD, cap, mt, le, en) C E F P Q T G U H B O J V Y Z O9), k, n)) (g := True ∧ True) (by with_unfolding_all rfl) ⟨trivial, trivial⟩ ?_
            cases h
            exact am_ev_ret 0 0 0 rfl .int rfl rfl rfl
set_option maxHeartbeats 4000000 in
set_option maxRecDepth 100000 in
theorem ok_fN_termLike {fl : Nat} {N : cN} {C : cC} {E : cE} {F : cF} {P : cP} {Q : cQ} {T : cT} {G : cG} {U : cU} {H : cH} {B : cB} {O : cO} {J : cJ} {V : cV} {Y : cY} {Z : cZ} {O9 : cO9} {k n : Nat} {p1 p2 p3 : Int32} {rv : Int32} {N' : cN} (h : fN_termLike fl N p1 p2 p3 = some (rv, N')) (D : Nat) (hD : 3 ≤ D) : am_Call D 36 [.ref 1, .int p1, .int p2, .int p3] (W9 N C E F P Q T G U H B O J V Y Z O9) k n (.inl (some (.int rv)), W9 N' C E F P Q T G U H B O J V Y Z O9, k, n) := by
  unfold fN_termLike at h
  obtain ⟨D, rfl⟩ : ∃ D', D = D' + 1 := ⟨D - 1, by omega⟩
  have hD : 2 ≤ D := by omega
  refine am_call_run (by decide) (by decide) rfl (Nat.le_of_ble_eq_true rfl) (by decide) (L := [(0, .ref 1), (1, .int p1), (2, .int p2), (3, .int p3)]) rfl ?_
  refine am_ev_st 2 (f' := (3, [(4, .int (0 : Int32)), (0, .ref 1), (1, .int p1), (2, .int p2), (3, .int p3)], [], (W9 N C E F P Q T G U H B O J V Y Z O9), k, n)) (g := True ∧ True ∧ True) (by with_unfolding_all rfl) ⟨trivial, trivial, trivial⟩ ?_
  refine am_ev_drop [1, 2, 3, 4, 0] rfl rfl ?_
  exact ok_lp_fN_termLike_3 h D hD
def fM_readNode_Q (fl : Nat) : Nat → cN → cQ → Nat → Nat → Int32 → Option (Int32 × cN × cQ × (Nat × Nat))
  | 0, _, _, _, _, _ => none
  | d + 1, N, Q, k, n, p2 =>
    match Q with
    | (qr, ql, qx) =>
    (fM_at_Q Q qx).bind fun z1 =>
    match z1 with
    | (r1) =>
    if r1 ≠ (-1 : Int32) then
    ((fJ_hasParts (r1 - r1 / (10 : Int32) * (10 : Int32))).bind fun z3 =>
    match z3 with
    | (r3) =>
    if (am_bz r3) = 0 then
    (if p2 = 0 then
    ((fN_add N k n (r1 - r1 / (10 : Int32) * (10 : Int32)) (r1 / (10 : Int32)) (-1 : Int32)).bind fun z6 =>
    match z6 with
    | (r6, N_6, (k_6, n_6)) =>
    some (r6, N_6, (qr, ql, (qx + (1 : Int32))), (k_6, n_6)))
    else
    (fN_termLike fl N (r1 - r1 / (10 : Int32) * (10 : Int32)) (r1 / (10 : Int32)) (-1 : Int32)).bind fun z7 =>
    match z7 with
    | (r7, N_7) =>
    some (r7, N_7, (qr, ql, (qx + (1 : Int32))), (k, n)))
    else
    (fM_readNode_Q fl d N (qr, ql, (qx + (1 : Int32))) k n p2).bind fun z8 =>
    match z8 with
    | (r8, N_8, Q_8, (k_8, n_8)) =>
    if r8 ≠ (-1 : Int32) then
    ((fM_readNode_Q fl d N_8 Q_8 k_8 n_8 p2).bind fun z10 =>
    match z10 with
    | (r10, N_10, Q_10, (k_10, n_10)) =>
    if r10 ≠ (-1 : Int32) then
    (if p2 = 0 then
    ((fN_add N_10 k_10 n_10 (r1 - r1 / (10 : Int32) * (10 : Int32)) r8 r10).bind fun z13 =>
    match z13 with
    | (r13, N_13, (k_13, n_13)) =>
    some (r13, N_13, Q_10, (k_13, n_13)))
    else
    (fN_termLike fl N_10 (r1 - r1 / (10 : Int32) * (10 : Int32)) r8 r10).bind fun z14 =>
    match z14 with
    | (r14, N_14) =>
    some (r14, N_14, Q_10, (k_10, n_10)))
    else
    some ((-1 : Int32), N_10, Q_10, (k_10, n_10)))
    else
    if (-1 : Int32) ≠ (-1 : Int32) then
    (if p2 = 0 then
    ((fN_add N_8 k_8 n_8 (r1 - r1 / (10 : Int32) * (10 : Int32)) r8 (-1 : Int32)).bind fun z17 =>
    match z17 with
    | (r17, N_17, (k_17, n_17)) =>
    some (r17, N_17, Q_8, (k_17, n_17)))
    else
    (fN_termLike fl N_8 (r1 - r1 / (10 : Int32) * (10 : Int32)) r8 (-1 : Int32)).bind fun z18 =>
    match z18 with
    | (r18, N_18) =>
    some (r18, N_18, Q_8, (k_8, n_8)))
    else
    some ((-1 : Int32), N_8, Q_8, (k_8, n_8)))
    else
    some ((-1 : Int32), N, Q, (k, n))
set_option maxHeartbeats 4000000 in
set_option maxRecDepth 100000 in
theorem ok_fM_readNode_Q {fl : Nat} : ∀ {d : Nat} {N : cN} {C : cC} {E : cE} {F : cF} {P : cP} {Q : cQ} {T : cT} {G : cG} {U : cU} {H : cH} {B : cB} {O : cO} {J : cJ} {V : cV} {Y : cY} {Z : cZ} {O9 : cO9} {k n : Nat} {p2 : Int32} {rv : Int32} {N' : cN} {Q' : cQ} {k' n' : Nat} (h : fM_readNode_Q fl d N Q k n p2 = some (rv, N', Q', (k', n'))) (D : Nat) (hD : d + 3 ≤ D), am_Call D 24 [.ref 17, .ref 1, .int p2] (W9 N C E F P Q T G U H B O J V Y Z O9) k n (.inl (some (.int rv)), W9 N' C E F P Q' T G U H B O J V Y Z O9, k', n') := by
  intro d
  induction d with
  | zero => intros; rename_i h _ _; cases h
  | succ d ih0 =>
    intro N C E F P Q T G U H B O J V Y Z O9 k n p2 rv N' Q' k' n' h D hD
    have ih := fun {N} {C} {E} {F} {P} {Q} {T} {G} {U} {H} {B} {O} {J} {V} {Y} {Z} {O9} {k} {n} {p2} {rv} {N'} {Q'} {k'} {n'} h D hD => @ih0 N C E F P Q T G U H B O J V Y Z O9 k n p2 rv N' Q' k' n' h D hD
    unfold fM_readNode_Q at h
    obtain ⟨D, rfl⟩ : ∃ D', D = D' + 1 := ⟨D - 1, by omega⟩
    refine am_call_run (by decide) (by decide) rfl (Nat.le_of_ble_eq_true rfl) (by decide) (L := [(0, .ref 17), (1, .ref 1), (2, .int p2)]) rfl ?_
    obtain ⟨qr, ql, qx⟩ := Q
    try dsimp only at h
    refine am_ev_st 3 (f' := (5, [(0, .ref 17), (1, .ref 1), (2, .int p2)], [.int qx, .ref 17], (W9 N C E F P (qr, ql, qx) T G U H B O J V Y Z O9), k, n)) (g := True ∧ True ∧ True ∧ True) (by with_unfolding_all rfl) ⟨trivial, trivial, trivial, trivial⟩ ?_
    replace h := Option.bind_eq_some_iff.mp h
    obtain ⟨r1, hc1, h⟩ := h
    try dsimp only at h
    refine am_ev_call (.invokevirtual 22) 19 2 333 [.ref 17, .int qx] [] rfl rfl rfl rfl (ok_fM_at_Q hc1 D (by omega)) rfl ?_
    refine am_ev_st 4 (f' := am_br (r1 ≠ (-1 : Int32)) 16 11 [(3, .int r1), (0, .ref 17), (1, .ref 1), (2, .int p2)] [] (W9 N C E F P (qr, ql, qx) T G U H B O J V Y Z O9) k n) (g := True ∧ True ∧ True ∧ True ∧ True) (by with_unfolding_all rfl) ⟨trivial, trivial, trivial, trivial, trivial⟩ ?_
    by_cases c2 : r1 ≠ (-1 : Int32)
    · rw [if_pos c2] at h
      refine am_ev_pos c2 ?_
      refine am_ev_st 17 (f' := (43, [(6, .int (-1 : Int32)), (5, .int (r1 / (10 : Int32))), (4, .int (r1 - r1 / (10 : Int32) * (10 : Int32))), (3, .int r1), (0, .ref 17), (1, .ref 1), (2, .int p2)], [.int (r1 - r1 / (10 : Int32) * (10 : Int32))], (W9 N C E F P (qr, ql, (qx + (1 : Int32))) T G U H B O J V Y Z O9), k, n)) (g := True ∧ True ∧ True ∧ True ∧ True ∧ True ∧ True ∧ True ∧ ¬ ((10 : Int32) = 0) ∧ True ∧ True ∧ True ∧ ¬ ((10 : Int32) = 0) ∧ True ∧ True ∧ True ∧ True ∧ True) (by with_unfolding_all rfl) ⟨trivial, trivial, trivial, trivial, trivial, trivial, trivial, trivial, by decide, trivial, trivial, trivial, by decide, trivial, trivial, trivial, trivial, trivial⟩ ?_
      replace h := Option.bind_eq_some_iff.mp h
      obtain ⟨r3, hc3, h⟩ := h
      try dsimp only at h
      refine am_ev_call (.invokestatic 35) 71 3 310 [.int (r1 - r1 / (10 : Int32) * (10 : Int32))] [] rfl rfl rfl rfl (ok_fJ_hasParts hc3 D (by omega)) rfl ?_
      refine am_ev_st 1 (f' := am_br ((am_bz r3) = 0) 83 46 [(6, .int (-1 : Int32)), (5, .int (r1 / (10 : Int32))), (4, .int (r1 - r1 / (10 : Int32) * (10 : Int32))), (3, .int r1), (0, .ref 17), (1, .ref 1), (2, .int p2)] [] (W9 N C E F P (qr, ql, (qx + (1 : Int32))) T G U H B O J V Y Z O9) k n) (g := True ∧ True) (by with_unfolding_all rfl) ⟨trivial, trivial⟩ ?_
      by_cases c4 : (am_bz r3) = 0
      · rw [if_pos c4] at h
        refine am_ev_pos c4 ?_
        refine am_ev_st 2 (f' := am_br (p2 = 0) 100 84 [(6, .int (-1 : Int32)), (5, .int (r1 / (10 : Int32))), (4, .int (r1 - r1 / (10 : Int32) * (10 : Int32))), (3, .int r1), (0, .ref 17), (1, .ref 1), (2, .int p2)] [] (W9 N C E F P (qr, ql, (qx + (1 : Int32))) T G U H B O J V Y Z O9) k n) (g := True ∧ True ∧ True) (by with_unfolding_all rfl) ⟨trivial, trivial, trivial⟩ ?_
        by_cases c5 : p2 = 0
        · rw [if_pos c5] at h
          refine am_ev_pos c5 ?_
          refine am_ev_st 4 (f' := (107, [(6, .int (-1 : Int32)), (5, .int (r1 / (10 : Int32))), (4, .int (r1 - r1 / (10 : Int32) * (10 : Int32))), (3, .int r1), (0, .ref 17), (1, .ref 1), (2, .int p2)], [.int (-1 : Int32), .int (r1 / (10 : Int32)), .int (r1 - r1 / (10 : Int32) * (10 : Int32)), .ref 1], (W9 N C E F P (qr, ql, (qx + (1 : Int32))) T G U H B O J V Y Z O9), k, n)) (g := True ∧ True ∧ True ∧ True ∧ True) (by with_unfolding_all rfl) ⟨trivial, trivial, trivial, trivial, trivial⟩ ?_
          replace h := Option.bind_eq_some_iff.mp h
          obtain ⟨⟨r6, N_6, ⟨k_6, n_6⟩⟩, hc6, h⟩ := h
          try dsimp only at h
          refine am_ev_call (.invokevirtual 53) 38 6 350 [.ref 1, .int (r1 - r1 / (10 : Int32) * (10 : Int32)), .int (r1 / (10 : Int32)), .int (-1 : Int32)] [] rfl rfl rfl rfl (ok_fN_add hc6 D (by omega)) rfl ?_
          cases h
          exact am_ev_ret 0 0 0 rfl .int rfl rfl rfl
        · rw [if_neg c5] at h
          refine am_ev_neg c5 ?_
          refine am_ev_st 4 (f' := (94, [(6, .int (-1 : Int32)), (5, .int (r1 / (10 : Int32))), (4, .int (r1 - r1 / (10 : Int32) * (10 : Int32))), (3, .int r1), (0, .ref 17), (1, .ref 1), (2, .int p2)], [.int (-1 : Int32), .int (r1 / (10 : Int32)), .int (r1 - r1 / (10 : Int32) * (10 : Int32)), .ref 1], (W9 N C E F P (qr, ql, (qx + (1 : Int32))) T G U H B O J V Y Z O9), k, n)) (g := True ∧ True ∧ True ∧ True ∧ True) (by with_unfolding_all rfl) ⟨trivial, trivial, trivial, trivial, trivial⟩ ?_
          replace h := Option.bind_eq_some_iff.mp h
          obtain ⟨⟨r7, N_7⟩, hc7, h⟩ := h
          try dsimp only at h
          refine am_ev_call (.invokevirtual 49) 36 6 342 [.ref 1, .int (r1 - r1 / (10 : Int32) * (10 : Int32)), .int (r1 / (10 : Int32)), .int (-1 : Int32)] [] rfl rfl rfl rfl (ok_fN_termLike hc7 D (by omega)) rfl ?_
          refine am_ev_st 1 (f' := (110, [(6, .int (-1 : Int32)), (5, .int (r1 / (10 : Int32))), (4, .int (r1 - r1 / (10 : Int32) * (10 : Int32))), (3, .int r1), (0, .ref 17), (1, .ref 1), (2, .int p2)], [.int r7], (W9 N_7 C E F P (qr, ql, (qx + (1 : Int32))) T G U H B O J V Y Z O9), k, n)) (g := True ∧ True) (by with_unfolding_all rfl) ⟨trivial, trivial⟩ ?_
          cases h
          exact am_ev_ret 0 0 0 rfl .int rfl rfl rfl
      · rw [if_neg c4] at h
        refine am_ev_neg c4 ?_
        refine am_ev_st 3 (f' := (52, [(6, .int (-1 : Int32)), (5, .int (r1 / (10 : Int32))), (4, .int (r1 - r1 / (10 : Int32) * (10 : Int32))), (3, .int r1), (0, .ref 17), (1, .ref 1), (2, .int p2)], [.int p2, .ref 1, .ref 17], (W9 N C E F P (qr, ql, (qx + (1 : Int32))) T G U H B O J V Y Z O9), k, n)) (g := True ∧ True ∧ True ∧ True) (by with_unfolding_all rfl) ⟨trivial, trivial, trivial, trivial⟩ ?_
        replace h := Option.bind_eq_some_iff.mp h
        obtain ⟨⟨r8, N_8, Q_8, ⟨k_8, n_8⟩⟩, hc8, h⟩ := h
        try dsimp only at h
        refine am_ev_call (.invokevirtual 45) 24 4 338 [.ref 17, .ref 1, .int p2] [] rfl rfl rfl rfl (ih hc8 D (by omega)) rfl ?_
        refine am_ev_st 4 (f' := am_br (r8 ≠ (-1 : Int32)) 67 60 [(5, .int r8), (6, .int (-1 : Int32)), (4, .int (r1 - r1 / (10 : Int32) * (10 : Int32))), (3, .int r1), (0, .ref 17), (1, .ref 1), (2, .int p2)] [] (W9 N_8 C E F P Q_8 T G U H B O J V Y Z O9) k_8 n_8) (g := True ∧ True ∧ True ∧ True ∧ True) (by with_unfolding_all rfl) ⟨trivial, trivial, trivial, trivial, trivial⟩ ?_
        by_cases c9 : r8 ≠ (-1 : Int32)
        · rw [if_pos c9] at h
          refine am_ev_pos c9 ?_
          refine am_ev_st 3 (f' := (70, [(5, .int r8), (6, .int (-1 : Int32)), (4, .int (r1 - r1 / (10 : Int32) * (10 : Int32))), (3, .int r1), (0, .ref 17), (1, .ref 1), (2, .int p2)], [.int p2, .ref 1, .ref 17], (W9 N_8 C E F P Q_8 T G U H B O J V Y Z O9), k_8, n_8)) (g := True ∧ True ∧ True ∧ True) (by with_unfolding_all rfl) ⟨trivial, trivial, trivial, trivial⟩ ?_
          replace h := Option.bind_eq_some_iff.mp h
          obtain ⟨⟨r10, N_10, Q_10, ⟨k_10, n_10⟩⟩, hc10, h⟩ := h
          try dsimp only at h
          refine am_ev_call (.invokevirtual 45) 24 4 338 [.ref 17, .ref 1, .int p2] [] rfl rfl rfl rfl (ih hc10 D (by omega)) rfl ?_
          refine am_ev_st 4 (f' := am_br (r10 ≠ (-1 : Int32)) 83 78 [(6, .int r10), (5, .int r8), (4, .int (r1 - r1 / (10 : Int32) * (10 : Int32))), (3, .int r1), (0, .ref 17), (1, .ref 1), (2, .int p2)] [] (W9 N_10 C E F P Q_10 T G U H B O J V Y Z O9) k_10 n_10) (g := True ∧ True ∧ True ∧ True ∧ True) (by with_unfolding_all rfl) ⟨trivial, trivial, trivial, trivial, trivial⟩ ?_
          by_cases c11 : r10 ≠ (-1 : Int32)
          · rw [if_pos c11] at h
            refine am_ev_pos c11 ?_
            refine am_ev_st 2 (f' := am_br (p2 = 0) 100 84 [(6, .int r10), (5, .int r8), (4, .int (r1 - r1 / (10 : Int32) * (10 : Int32))), (3, .int r1), (0, .ref 17), (1, .ref 1), (2, .int p2)] [] (W9 N_10 C E F P Q_10 T G U H B O J V Y Z O9) k_10 n_10) (g := True ∧ True ∧ True) (by with_unfolding_all rfl) ⟨trivial, trivial, trivial⟩ ?_
            by_cases c12 : p2 = 0
            · rw [if_pos c12] at h
              refine am_ev_pos c12 ?_
              refine am_ev_st 4 (f' := (107, [(6, .int r10), (5, .int r8), (4, .int (r1 - r1 / (10 : Int32) * (10 : Int32))), (3, .int r1), (0, .ref 17), (1, .ref 1), (2, .int p2)], [.int r10, .int r8, .int (r1 - r1 / (10 : Int32) * (10 : Int32)), .ref 1], (W9 N_10 C E F P Q_10 T G U H B O J V Y Z O9), k_10, n_10)) (g := True ∧ True ∧ True ∧ True ∧ True) (by with_unfolding_all rfl) ⟨trivial, trivial, trivial, trivial, trivial⟩ ?_
              replace h := Option.bind_eq_some_iff.mp h
              obtain ⟨⟨r13, N_13, ⟨k_13, n_13⟩⟩, hc13, h⟩ := h
              try dsimp only at h
              refine am_ev_call (.invokevirtual 53) 38 6 350 [.ref 1, .int (r1 - r1 / (10 : Int32) * (10 : Int32)), .int r8, .int r10] [] rfl rfl rfl rfl (ok_fN_add hc13 D (by omega)) rfl ?_
              cases h
              exact am_ev_ret 0 0 0 rfl .int rfl rfl rfl
            · rw [if_neg c12] at h
              refine am_ev_neg c12 ?_
              refine am_ev_st 4 (f' := (94, [(6, .int r10), (5, .int r8), (4, .int (r1 - r1 / (10 : Int32) * (10 : Int32))), (3, .int r1), (0, .ref 17), (1, .ref 1), (2, .int p2)], [.int r10, .int r8, .int (r1 - r1 / (10 : Int32) * (10 : Int32)), .ref 1], (W9 N_10 C E F P Q_10 T G U H B O J V Y Z O9), k_10, n_10)) (g := True ∧ True ∧ True ∧ True ∧ True) (by with_unfolding_all rfl) ⟨trivial, trivial, trivial, trivial, trivial⟩ ?_
              replace h := Option.bind_eq_some_iff.mp h
              obtain ⟨⟨r14, N_14⟩, hc14, h⟩ := h
              try dsimp only at h
              refine am_ev_call (.invokevirtual 49) 36 6 342 [.ref 1, .int (r1 - r1 / (10 : Int32) * (10 : Int32)), .int r8, .int r10] [] rfl rfl rfl rfl (ok_fN_termLike hc14 D (by omega)) rfl ?_
              refine am_ev_st 1 (f' := (110, [(6, .int r10), (5, .int r8), (4, .int (r1 - r1 / (10 : Int32) * (10 : Int32))), (3, .int r1), (0, .ref 17), (1, .ref 1), (2, .int p2)], [.int r14], (W9 N_14 C E F P Q_10 T G U H B O J V Y Z O9), k_10, n_10)) (g := True ∧ True) (by with_unfolding_all rfl) ⟨trivial, trivial⟩ ?_
              cases h
              exact am_ev_ret 0 0 0 rfl .int rfl rfl rfl
          · rw [if_neg c11] at h
            refine am_ev_neg c11 ?_
            refine am_ev_st 1 (f' := (82, [(6, .int r10), (5, .int r8), (4, .int (r1 - r1 / (10 : Int32) * (10 : Int32))), (3, .int r1), (0, .ref 17), (1, .ref 1), (2, .int p2)], [.int (-1 : Int32)], (W9 N_10 C E F P Q_10 T G U H B O J V Y Z O9), k_10, n_10)) (g := True ∧ True) (by with_unfolding_all rfl) ⟨trivial, trivial⟩ ?_
            cases h
            exact am_ev_ret 0 0 0 rfl .int rfl rfl rfl
        · rw [if_neg c9] at h
          refine am_ev_neg c9 ?_
          refine am_ev_st 6 (f' := am_br ((-1 : Int32) ≠ (-1 : Int32)) 83 78 [(6, .int (-1 : Int32)), (5, .int r8), (4, .int (r1 - r1 / (10 : Int32) * (10 : Int32))), (3, .int r1), (0, .ref 17), (1, .ref 1), (2, .int p2)] [] (W9 N_8 C E F P Q_8 T G U H B O J V Y Z O9) k_8 n_8) (g := True ∧ True ∧ True ∧ True ∧ True ∧ True ∧ True) (by with_unfolding_all rfl) ⟨trivial, trivial, trivial, trivial, trivial, trivial, trivial⟩ ?_
          by_cases c15 : (-1 : Int32) ≠ (-1 : Int32)
          · rw [if_pos c15] at h
            refine am_ev_pos c15 ?_
            refine am_ev_st 2 (f' := am_br (p2 = 0) 100 84 [(6, .int (-1 : Int32)), (5, .int r8), (4, .int (r1 - r1 / (10 : Int32) * (10 : Int32))), (3, .int r1), (0, .ref 17), (1, .ref 1), (2, .int p2)] [] (W9 N_8 C E F P Q_8 T G U H B O J V Y Z O9) k_8 n_8) (g := True ∧ True ∧ True) (by with_unfolding_all rfl) ⟨trivial, trivial, trivial⟩ ?_
            by_cases c16 : p2 = 0
            · rw [if_pos c16] at h
              refine am_ev_pos c16 ?_
              refine am_ev_st 4 (f' := (107, [(6, .int (-1 : Int32)), (5, .int r8), (4, .int (r1 - r1 / (10 : Int32) * (10 : Int32))), (3, .int r1), (0, .ref 17), (1, .ref 1), (2, .int p2)], [.int (-1 : Int32), .int r8, .int (r1 - r1 / (10 : Int32) * (10 : Int32)), .ref 1], (W9 N_8 C E F P Q_8 T G U H B O J V Y Z O9), k_8, n_8)) (g := True ∧ True ∧ True ∧ True ∧ True) (by with_unfolding_all rfl) ⟨trivial, trivial, trivial, trivial, trivial⟩ ?_
              replace h := Option.bind_eq_some_iff.mp h
              obtain ⟨⟨r17, N_17, ⟨k_17, n_17⟩⟩, hc17, h⟩ := h
              try dsimp only at h
              refine am_ev_call (.invokevirtual 53) 38 6 350 [.ref 1, .int (r1 - r1 / (10 : Int32) * (10 : Int32)), .int r8, .int (-1 : Int32)] [] rfl rfl rfl rfl (ok_fN_add hc17 D (by omega)) rfl ?_
              cases h
              exact am_ev_ret 0 0 0 rfl .int rfl rfl rfl
            · rw [if_neg c16] at h
              refine am_ev_neg c16 ?_
              refine am_ev_st 4 (f' := (94, [(6, .int (-1 : Int32)), (5, .int r8), (4, .int (r1 - r1 / (10 : Int32) * (10 : Int32))), (3, .int r1), (0, .ref 17), (1, .ref 1), (2, .int p2)], [.int (-1 : Int32), .int r8, .int (r1 - r1 / (10 : Int32) * (10 : Int32)), .ref 1], (W9 N_8 C E F P Q_8 T G U H B O J V Y Z O9), k_8, n_8)) (g := True ∧ True ∧ True ∧ True ∧ True) (by with_unfolding_all rfl) ⟨trivial, trivial, trivial, trivial, trivial⟩ ?_
              replace h := Option.bind_eq_some_iff.mp h
              obtain ⟨⟨r18, N_18⟩, hc18, h⟩ := h
              try dsimp only at h
              refine am_ev_call (.invokevirtual 49) 36 6 342 [.ref 1, .int (r1 - r1 / (10 : Int32) * (10 : Int32)), .int r8, .int (-1 : Int32)] [] rfl rfl rfl rfl (ok_fN_termLike hc18 D (by omega)) rfl ?_
              refine am_ev_st 1 (f' := (110, [(6, .int (-1 : Int32)), (5, .int r8), (4, .int (r1 - r1 / (10 : Int32) * (10 : Int32))), (3, .int r1), (0, .ref 17), (1, .ref 1), (2, .int p2)], [.int r18], (W9 N_18 C E F P Q_8 T G U H B O J V Y Z O9), k_8, n_8)) (g := True ∧ True) (by with_unfolding_all rfl) ⟨trivial, trivial⟩ ?_
              cases h
              exact am_ev_ret 0 0 0 rfl .int rfl rfl rfl
          · rw [if_neg c15] at h
            refine am_ev_neg c15 ?_
            refine am_ev_st 1 (f' := (82, [(6, .int (-1 : Int32)), (5, .int r8), (4, .int (r1 - r1 / (10 : Int32) * (10 : Int32))), (3, .int r1), (0, .ref 17), (1, .ref 1), (2, .int p2)], [.int (-1 : Int32)], (W9 N_8 C E F P Q_8 T G U H B O J V Y Z O9), k_8, n_8)) (g := True ∧ True) (by with_unfolding_all rfl) ⟨trivial, trivial⟩ ?_
            cases h
            exact am_ev_ret 0 0 0 rfl .int rfl rfl rfl
    · rw [if_neg c2] at h
      refine am_ev_neg c2 ?_
      refine am_ev_st 1 (f' := (15, [(3, .int r1), (0, .ref 17), (1, .ref 1), (2, .int p2)], [.int (-1 : Int32)], (W9 N C E F P (qr, ql, qx) T G U H B O J V Y Z O9), k, n)) (g := True ∧ True) (by with_unfolding_all rfl) ⟨trivial, trivial⟩ ?_
      cases h
      exact am_ev_ret 0 0 0 rfl .int rfl rfl rfl
def fM_read_Q (fl : Nat) (d : Nat) (N : cN) (Q : cQ) (k n : Nat) (p2 : Int32) : Option (Int32 × cN × cQ × (Nat × Nat)) :=
  match Q with
  | (qr, ql, qx) =>
  (fM_readNode_Q fl d N (qr, ql, (0 : Int32)) k n p2).bind fun z1 =>
  match z1 with
  | (r1, N_1, Q_1, (k_1, n_1)) =>
  some (r1, N_1, Q_1, (k_1, n_1))
set_option maxHeartbeats 4000000 in
set_option maxRecDepth 100000 in
theorem ok_fM_read_Q {fl d : Nat} {N : cN} {C : cC} {E : cE} {F : cF} {P : cP} {Q : cQ} {T : cT} {G : cG} {U : cU} {H : cH} {B : cB} {O : cO} {J : cJ} {V : cV} {Y : cY} {Z : cZ} {O9 : cO9} {k n : Nat} {p2 : Int32} {rv : Int32} {N' : cN} {Q' : cQ} {k' n' : Nat} (h : fM_read_Q fl d N Q k n p2 = some (rv, N', Q', (k', n'))) (D : Nat) (hD : d + 4 ≤ D) : am_Call D 23 [.ref 17, .ref 1, .int p2] (W9 N C E F P Q T G U H B O J V Y Z O9) k n (.inl (some (.int rv)), W9 N' C E F P Q' T G U H B O J V Y Z O9, k', n') := by
  unfold fM_read_Q at h
  obtain ⟨D, rfl⟩ : ∃ D', D = D' + 1 := ⟨D - 1, by omega⟩
  have hD : d + 3 ≤ D := by omega
  refine am_call_run (by decide) (by decide) rfl (Nat.le_of_ble_eq_true rfl) (by decide) (L := [(0, .ref 17), (1, .ref 1), (2, .int p2)]) rfl ?_
  obtain ⟨qr, ql, qx⟩ := Q
  try dsimp only at h
  refine am_ev_st 6 (f' := (8, [(0, .ref 17), (1, .ref 1), (2, .int p2)], [.int p2, .ref 1, .ref 17], (W9 N C E F P (qr, ql, (0 : Int32)) T G U H B O J V Y Z O9), k, n)) (g := True ∧ True ∧ True ∧ True ∧ True ∧ True ∧ True) (by with_unfolding_all rfl) ⟨trivial, trivial, trivial, trivial, trivial, trivial, trivial⟩ ?_
  replace h := Option.bind_eq_some_iff.mp h
  obtain ⟨⟨r1, N_1, Q_1, ⟨k_1, n_1⟩⟩, hc1, h⟩ := h
  try dsimp only at h
  refine am_ev_call (.invokevirtual 45) 24 4 338 [.ref 17, .ref 1, .int p2] [] rfl rfl rfl rfl (ok_fM_readNode_Q hc1 D (by omega)) rfl ?_
  cases h
  exact am_ev_ret 0 0 0 rfl .int rfl rfl rfl
def fN_keepPassing (N : cN) : Option (cN) :=
  match N with
  | (nK, nL, nR, nS, nD, cap, mt, le, en) =>
  some (nK, nL, nR, nS, nD, cap, mt, en, en)
set_option maxHeartbeats 4000000 in
set_option maxRecDepth 100000 in
theorem ok_fN_keepPassing  {N : cN} {C : cC} {E : cE} {F : cF} {P : cP} {Q : cQ} {T : cT} {G : cG} {U : cU} {H : cH} {B : cB} {O : cO} {J : cJ} {V : cV} {Y : cY} {Z : cZ} {O9 : cO9} {k n : Nat} {N' : cN} (h : fN_keepPassing N = some N') (D : Nat) (hD : 1 ≤ D) : am_Call D 42 [.ref 1] (W9 N C E F P Q T G U H B O J V Y Z O9) k n (.inl none, W9 N' C E F P Q T G U H B O J V Y Z O9, k, n) := by
  unfold fN_keepPassing at h
  obtain ⟨D, rfl⟩ : ∃ D', D = D' + 1 := ⟨D - 1, by omega⟩
  have hD : 0 ≤ D := by omega
  refine am_call_run (by decide) (by decide) rfl (Nat.le_of_ble_eq_true rfl) (by decide) (L := [(0, .ref 1)]) rfl ?_
  obtain ⟨nK, nL, nR, nS, nD, cap, mt, le, en⟩ := N
  try dsimp only at h
  refine am_ev_st 4 (f' := (8, [(0, .ref 1)], [], (W9 (nK, nL, nR, nS, nD, cap, mt, en, en) C E F P Q T G U H B O J V Y Z O9), k, n)) (g := True ∧ True ∧ True ∧ True ∧ True) (by with_unfolding_all rfl) ⟨trivial, trivial, trivial, trivial, trivial⟩ ?_
  cases h
  exact am_ev_vret 0 0 0 rfl rfl rfl
def fJ_lasting (fl : Nat) (d : Nat) (N : cN) (Q : cQ) (k n : Nat) : Option (Int32 × cN × cQ × (Nat × Nat)) :=
  (fN_dropPassing N).bind fun z1 =>
  match z1 with
  | (N_1) =>
  (fM_read_Q fl d N_1 Q k n (0 : Int32)).bind fun z2 =>
  match z2 with
  | (r2, N_2, Q_2, (k_2, n_2)) =>
  (fN_keepPassing N_2).bind fun z3 =>
  match z3 with
  | (N_3) =>
  some (r2, N_3, Q_2, (k_2, n_2))
set_option maxHeartbeats 4000000 in
set_option maxRecDepth 100000 in
theorem ok_fJ_lasting {fl d : Nat} {N : cN} {C : cC} {E : cE} {F : cF} {P : cP} {Q : cQ} {T : cT} {G : cG} {U : cU} {H : cH} {B : cB} {O : cO} {J : cJ} {V : cV} {Y : cY} {Z : cZ} {O9 : cO9} {k n : Nat} {rv : Int32} {N' : cN} {Q' : cQ} {k' n' : Nat} (h : fJ_lasting fl d N Q k n = some (rv, N', Q', (k', n'))) (D : Nat) (hD : d + 5 ≤ D) : am_Call D 75 [.ref 0, .ref 17] (W9 N C E F P Q T G U H B O J V Y Z O9) k n (.inl (some (.int rv)), W9 N' C E F P Q' T G U H B O J V Y Z O9, k', n') := by
  unfold fJ_lasting at h
  obtain ⟨D, rfl⟩ : ∃ D', D = D' + 1 := ⟨D - 1, by omega⟩
  have hD : d + 4 ≤ D := by omega
  refine am_call_run (by decide) (by decide) rfl (Nat.le_of_ble_eq_true rfl) (by decide) (L := [(0, .ref 0), (1, .ref 17)]) rfl ?_
  refine am_ev_st 2 (f' := (4, [(0, .ref 0), (1, .ref 17)], [.ref 1], (W9 N C E F P Q T G U H B O J V Y Z O9), k, n)) (g := True ∧ True ∧ True) (by with_unfolding_all rfl) ⟨trivial, trivial, trivial⟩ ?_
  replace h := Option.bind_eq_some_iff.mp h
  obtain ⟨N_1, hc1, h⟩ := h
  try dsimp only at h
  refine am_ev_call (.invokevirtual 164) 41 0 485 [.ref 1] [] rfl rfl rfl rfl (ok_fN_dropPassing hc1 D (by omega)) rfl ?_
  refine am_ev_st 4 (f' := (13, [(0, .ref 0), (1, .ref 17)], [.int (0 : Int32), .ref 1, .ref 17], (W9 N_1 C E F P Q T G U H B O J V Y Z O9), k, n)) (g := True ∧ True ∧ True ∧ True ∧ True) (by with_unfolding_all rfl) ⟨trivial, trivial, trivial, trivial, trivial⟩ ?_
  replace h := Option.bind_eq_some_iff.mp h
  obtain ⟨⟨r2, N_2, Q_2, ⟨k_2, n_2⟩⟩, hc2, h⟩ := h
  try dsimp only at h
  refine am_ev_call (.invokevirtual 143) 23 4 334 [.ref 17, .ref 1, .int (0 : Int32)] [] rfl rfl rfl rfl (ok_fM_read_Q hc2 D (by omega)) rfl ?_
  refine am_ev_st 3 (f' := (21, [(2, .int r2), (0, .ref 0), (1, .ref 17)], [.ref 1], (W9 N_2 C E F P Q_2 T G U H B O J V Y Z O9), k_2, n_2)) (g := True ∧ True ∧ True ∧ True) (by with_unfolding_all rfl) ⟨trivial, trivial, trivial, trivial⟩ ?_
  replace h := Option.bind_eq_some_iff.mp h
  obtain ⟨N_3, hc3, h⟩ := h
  try dsimp only at h
  refine am_ev_call (.invokevirtual 173) 42 0 672 [.ref 1] [] rfl rfl rfl rfl (ok_fN_keepPassing hc3 D (by omega)) rfl ?_
  refine am_ev_st 1 (f' := (25, [(2, .int r2), (0, .ref 0), (1, .ref 17)], [.int r2], (W9 N_3 C E F P Q_2 T G U H B O J V Y Z O9), k_2, n_2)) (g := True ∧ True) (by with_unfolding_all rfl) ⟨trivial, trivial⟩ ?_
  cases h
  exact am_ev_ret 0 0 0 rfl .int rfl rfl rfl
