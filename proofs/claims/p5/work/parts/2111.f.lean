def lp_fE_nextPlace_7 (fl : Nat) : Nat → cN → cC → Int32 → Int32 → Int32 → Int32 → Option (Int32)
  | 0, _, _, _, _, _, _ => none
  | w + 1, N, C, v1, v2, v3, v4 =>
    if (12 : Int32) ≤ v4 then
    ((fN_kindOf N v2).bind fun z2 =>
    match z2 with
    | (r2) =>
    if r2 ≠ (3 : Int32) then
    (if r2 ≠ (5 : Int32) then
    (if (0 : Int32) = 0 then
    (some (-1 : Int32))
    else
    some v2)
    else
    (fN_leftOf N v2).bind fun z6 =>
    match z6 with
    | (r6) =>
    (fC_bodyAt C r6).bind fun z7 =>
    match z7 with
    | (r7) =>
    if r7 = (-1 : Int32) then
    (if (0 : Int32) = 0 then
    (some (-1 : Int32))
    else
    some v2)
    else
    if (1 : Int32) = 0 then
    (some (-1 : Int32))
    else
    some v2)
    else
    some v3)
    else
    (fN_kindOf N v2).bind fun z11 =>
    match z11 with
    | (r11) =>
    if r11 ≠ (4 : Int32) then
    ((fN_kindOf N v2).bind fun z13 =>
    match z13 with
    | (r13) =>
    if r13 ≠ (3 : Int32) then
    (if r13 ≠ (5 : Int32) then
    (if (0 : Int32) = 0 then
    (some (-1 : Int32))
    else
    some v2)
    else
    (fN_leftOf N v2).bind fun z17 =>
    match z17 with
    | (r17) =>
    (fC_bodyAt C r17).bind fun z18 =>
    match z18 with
    | (r18) =>
    if r18 = (-1 : Int32) then
    (if (0 : Int32) = 0 then
    (some (-1 : Int32))
    else
    some v2)
    else
    if (1 : Int32) = 0 then
    (some (-1 : Int32))
    else
    some v2)
    else
    some v3)
    else
    (fN_leftOf N v2).bind fun z22 =>
    match z22 with
    | (r22) =>
    lp_fE_nextPlace_7 fl w N C v1 r22 v2 (v4 + (1 : Int32))
def fE_nextPlace (fl : Nat) (N : cN) (C : cC) (p1 : Int32) : Option (Int32) :=
  lp_fE_nextPlace_7 fl fl N C p1 p1 (-1 : Int32) (0 : Int32)
set_option maxHeartbeats 4000000 in
set_option maxRecDepth 100000 in
theorem ok_lp_fE_nextPlace_7 {fl : Nat} : ∀ {w : Nat} {N : cN} {C : cC} {E : cE} {F : cF} {P : cP} {Q : cQ} {T : cT} {G : cG} {U : cU} {H : cH} {B : cB} {O : cO} {J : cJ} {V : cV} {Y : cY} {Z : cZ} {O9 : cO9} {k n : Nat} {v1 : Int32} {v2 : Int32} {v3 : Int32} {v4 : Int32} {rv : Int32} (h : lp_fE_nextPlace_7 fl w N C v1 v2 v3 v4 = some rv) (D : Nat) (hD : 2 ≤ D), am_Ev D 49 0 (fun _ => 0) (7, [(0, .ref 10), (1, .int v1), (2, .int v2), (3, .int v3), (4, .int v4)], [], (W9 N C E F P Q T G U H B O J V Y Z O9), k, n) (.inl (some (.int rv)), W9 N C E F P Q T G U H B O J V Y Z O9, k, n) := by
  intro w
  induction w with
  | zero => intros; rename_i h _ _; cases h
  | succ w ih0 =>
    intro N C E F P Q T G U H B O J V Y Z O9 k n v1 v2 v3 v4 rv h D hD
    have ih := fun {N} {C} {E} {F} {P} {Q} {T} {G} {U} {H} {B} {O} {J} {V} {Y} {Z} {O9} {k} {n} {v1} {v2} {v3} {v4} {rv} h => @ih0 N C E F P Q T G U H B O J V Y Z O9 k n v1 v2 v3 v4 rv h D hD
    unfold lp_fE_nextPlace_7 at h
    refine am_ev_st 3 (f' := am_br ((12 : Int32) ≤ v4) 43 11 [(0, .ref 10), (1, .int v1), (2, .int v2), (3, .int v3), (4, .int v4)] [] (W9 N C E F P Q T G U H B O J V Y Z O9) k n) (g := True ∧ True ∧ True ∧ True) (by with_unfolding_all rfl) ⟨trivial, trivial, trivial, trivial⟩ ?_
    by_cases c1 : (12 : Int32) ≤ v4
    · rw [if_pos c1] at h
      refine am_ev_pos c1 ?_
      refine am_ev_st 3 (f' := (48, [(0, .ref 10), (1, .int v1), (2, .int v2), (3, .int v3), (4, .int v4)], [.int v2, .ref 1], (W9 N C E F P Q T G U H B O J V Y Z O9), k, n)) (g := True ∧ True ∧ True ∧ True) (by with_unfolding_all rfl) ⟨trivial, trivial, trivial, trivial⟩ ?_
      replace h := Option.bind_eq_some_iff.mp h
      obtain ⟨r2, hc2, h⟩ := h
      try dsimp only at h
      refine am_ev_call (.invokevirtual 52) 28 2 550 [.ref 1, .int v2] [] rfl rfl rfl rfl (ok_fN_kindOf hc2 D (by omega)) rfl ?_
      refine am_ev_st 4 (f' := am_br (r2 ≠ (3 : Int32)) 61 56 [(4, .int r2), (0, .ref 10), (1, .int v1), (2, .int v2), (3, .int v3)] [] (W9 N C E F P Q T G U H B O J V Y Z O9) k n) (g := True ∧ True ∧ True ∧ True ∧ True) (by with_unfolding_all rfl) ⟨trivial, trivial, trivial, trivial, trivial⟩ ?_
      by_cases c3 : r2 ≠ (3 : Int32)
      · rw [if_pos c3] at h
        refine am_ev_pos c3 ?_
        refine am_ev_st 3 (f' := am_br (r2 ≠ (5 : Int32)) 90 64 [(4, .int r2), (0, .ref 10), (1, .int v1), (2, .int v2), (3, .int v3)] [] (W9 N C E F P Q T G U H B O J V Y Z O9) k n) (g := True ∧ True ∧ True ∧ True) (by with_unfolding_all rfl) ⟨trivial, trivial, trivial, trivial⟩ ?_
        by_cases c4 : r2 ≠ (5 : Int32)
        · rw [if_pos c4] at h
          refine am_ev_pos c4 ?_
          refine am_ev_st 4 (f' := am_br ((0 : Int32) = 0) 102 95 [(5, .int (0 : Int32)), (4, .int r2), (0, .ref 10), (1, .int v1), (2, .int v2), (3, .int v3)] [] (W9 N C E F P Q T G U H B O J V Y Z O9) k n) (g := True ∧ True ∧ True ∧ True ∧ True) (by with_unfolding_all rfl) ⟨trivial, trivial, trivial, trivial, trivial⟩ ?_
          by_cases c5 : (0 : Int32) = 0
          · rw [if_pos c5] at h
            refine am_ev_pos c5 ?_
            refine am_ev_st 1 (f' := (103, [(5, .int (0 : Int32)), (4, .int r2), (0, .ref 10), (1, .int v1), (2, .int v2), (3, .int v3)], [.int (-1 : Int32)], (W9 N C E F P Q T G U H B O J V Y Z O9), k, n)) (g := True ∧ True) (by with_unfolding_all rfl) ⟨trivial, trivial⟩ ?_
            cases h
            exact am_ev_ret 0 0 0 rfl .int rfl rfl rfl
          · rw [if_neg c5] at h
            refine am_ev_neg c5 ?_
            refine am_ev_st 2 (f' := (103, [(5, .int (0 : Int32)), (4, .int r2), (0, .ref 10), (1, .int v1), (2, .int v2), (3, .int v3)], [.int v2], (W9 N C E F P Q T G U H B O J V Y Z O9), k, n)) (g := True ∧ True ∧ True) (by with_unfolding_all rfl) ⟨trivial, trivial, trivial⟩ ?_
            cases h
            exact am_ev_ret 0 0 0 rfl .int rfl rfl rfl
        · rw [if_neg c4] at h
          refine am_ev_neg c4 ?_
          refine am_ev_st 5 (f' := (76, [(4, .int r2), (0, .ref 10), (1, .int v1), (2, .int v2), (3, .int v3)], [.int v2, .ref 1, .ref 7], (W9 N C E F P Q T G U H B O J V Y Z O9), k, n)) (g := True ∧ True ∧ True ∧ True ∧ True ∧ True) (by with_unfolding_all rfl) ⟨trivial, trivial, trivial, trivial, trivial, trivial⟩ ?_
          replace h := Option.bind_eq_some_iff.mp h
          obtain ⟨r6, hc6, h⟩ := h
          try dsimp only at h
          refine am_ev_call (.invokevirtual 47) 29 2 551 [.ref 1, .int v2] [.ref 7] rfl rfl rfl rfl (ok_fN_leftOf hc6 D (by omega)) rfl ?_
          replace h := Option.bind_eq_some_iff.mp h
          obtain ⟨r7, hc7, h⟩ := h
          try dsimp only at h
          refine am_ev_call (.invokevirtual 55) 5 2 552 [.ref 7, .int r6] [] rfl rfl rfl rfl (ok_fC_bodyAt hc7 D (by omega)) rfl ?_
          refine am_ev_st 2 (f' := am_br (r7 = (-1 : Int32)) 90 83 [(4, .int r2), (0, .ref 10), (1, .int v1), (2, .int v2), (3, .int v3)] [] (W9 N C E F P Q T G U H B O J V Y Z O9) k n) (g := True ∧ True ∧ True) (by with_unfolding_all rfl) ⟨trivial, trivial, trivial⟩ ?_
          by_cases c8 : r7 = (-1 : Int32)
          · rw [if_pos c8] at h
            refine am_ev_pos c8 ?_
            refine am_ev_st 4 (f' := am_br ((0 : Int32) = 0) 102 95 [(5, .int (0 : Int32)), (4, .int r2), (0, .ref 10), (1, .int v1), (2, .int v2), (3, .int v3)] [] (W9 N C E F P Q T G U H B O J V Y Z O9) k n) (g := True ∧ True ∧ True ∧ True ∧ True) (by with_unfolding_all rfl) ⟨trivial, trivial, trivial, trivial, trivial⟩ ?_
            by_cases c9 : (0 : Int32) = 0
            · rw [if_pos c9] at h
              refine am_ev_pos c9 ?_
              refine am_ev_st 1 (f' := (103, [(5, .int (0 : Int32)), (4, .int r2), (0, .ref 10), (1, .int v1), (2, .int v2), (3, .int v3)], [.int (-1 : Int32)], (W9 N C E F P Q T G U H B O J V Y Z O9), k, n)) (g := True ∧ True) (by with_unfolding_all rfl) ⟨trivial, trivial⟩ ?_
              cases h
              exact am_ev_ret 0 0 0 rfl .int rfl rfl rfl
            · rw [if_neg c9] at h
              refine am_ev_neg c9 ?_
              refine am_ev_st 2 (f' := (103, [(5, .int (0 : Int32)), (4, .int r2), (0, .ref 10), (1, .int v1), (2, .int v2), (3, .int v3)], [.int v2], (W9 N C E F P Q T G U H B O J V Y Z O9), k, n)) (g := True ∧ True ∧ True) (by with_unfolding_all rfl) ⟨trivial, trivial, trivial⟩ ?_
              cases h
              exact am_ev_ret 0 0 0 rfl .int rfl rfl rfl
          · rw [if_neg c8] at h
            refine am_ev_neg c8 ?_
            refine am_ev_st 5 (f' := am_br ((1 : Int32) = 0) 102 95 [(5, .int (1 : Int32)), (4, .int r2), (0, .ref 10), (1, .int v1), (2, .int v2), (3, .int v3)] [] (W9 N C E F P Q T G U H B O J V Y Z O9) k n) (g := True ∧ True ∧ True ∧ True ∧ True ∧ True) (by with_unfolding_all rfl) ⟨trivial, trivial, trivial, trivial, trivial, trivial⟩ ?_
            by_cases c10 : (1 : Int32) = 0
            · rw [if_pos c10] at h
              refine am_ev_pos c10 ?_
              refine am_ev_st 1 (f' := (103, [(5, .int (1 : Int32)), (4, .int r2), (0, .ref 10), (1, .int v1), (2, .int v2), (3, .int v3)], [.int (-1 : Int32)], (W9 N C E F P Q T G U H B O J V Y Z O9), k, n)) (g := True ∧ True) (by with_unfolding_all rfl) ⟨trivial, trivial⟩ ?_
              cases h
              exact am_ev_ret 0 0 0 rfl .int rfl rfl rfl
            · rw [if_neg c10] at h
              refine am_ev_neg c10 ?_
              refine am_ev_st 2 (f' := (103, [(5, .int (1 : Int32)), (4, .int r2), (0, .ref 10), (1, .int v1), (2, .int v2), (3, .int v3)], [.int v2], (W9 N C E F P Q T G U H B O J V Y Z O9), k, n)) (g := True ∧ True ∧ True) (by with_unfolding_all rfl) ⟨trivial, trivial, trivial⟩ ?_
              cases h
              exact am_ev_ret 0 0 0 rfl .int rfl rfl rfl
      · rw [if_neg c3] at h
        refine am_ev_neg c3 ?_
        refine am_ev_st 1 (f' := (60, [(4, .int r2), (0, .ref 10), (1, .int v1), (2, .int v2), (3, .int v3)], [.int v3], (W9 N C E F P Q T G U H B O J V Y Z O9), k, n)) (g := True ∧ True) (by with_unfolding_all rfl) ⟨trivial, trivial⟩ ?_
        cases h
        exact am_ev_ret 0 0 0 rfl .int rfl rfl rfl
    · rw [if_neg c1] at h
      refine am_ev_neg c1 ?_
      refine am_ev_st 3 (f' := (19, [(0, .ref 10), (1, .int v1), (2, .int v2), (3, .int v3), (4, .int v4)], [.int v2, .ref 1], (W9 N C E F P Q T G U H B O J V Y Z O9), k, n)) (g := True ∧ True ∧ True ∧ True) (by with_unfolding_all rfl) ⟨trivial, trivial, trivial, trivial⟩ ?_
      replace h := Option.bind_eq_some_iff.mp h
      obtain ⟨r11, hc11, h⟩ := h
      try dsimp only at h
      refine am_ev_call (.invokevirtual 52) 28 2 550 [.ref 1, .int v2] [] rfl rfl rfl rfl (ok_fN_kindOf hc11 D (by omega)) rfl ?_
      refine am_ev_st 2 (f' := am_br (r11 ≠ (4 : Int32)) 43 23 [(0, .ref 10), (1, .int v1), (2, .int v2), (3, .int v3), (4, .int v4)] [] (W9 N C E F P Q T G U H B O J V Y Z O9) k n) (g := True ∧ True ∧ True) (by with_unfolding_all rfl) ⟨trivial, trivial, trivial⟩ ?_
      by_cases c12 : r11 ≠ (4 : Int32)
      · rw [if_pos c12] at h
        refine am_ev_pos c12 ?_
        refine am_ev_st 3 (f' := (48, [(0, .ref 10), (1, .int v1), (2, .int v2), (3, .int v3), (4, .int v4)], [.int v2, .ref 1], (W9 N C E F P Q T G U H B O J V Y Z O9), k, n)) (g := True ∧ True ∧ True ∧ True) (by with_unfolding_all rfl) ⟨trivial, trivial, trivial, trivial⟩ ?_
        replace h := Option.bind_eq_some_iff.mp h
        obtain ⟨r13, hc13, h⟩ := h
        try dsimp only at h
        refine am_ev_call (.invokevirtual 52) 28 2 550 [.ref 1, .int v2] [] rfl rfl rfl rfl (ok_fN_kindOf hc13 D (by omega)) rfl ?_
        refine am_ev_st 4 (f' := am_br (r13 ≠ (3 : Int32)) 61 56 [(4, .int r13), (0, .ref 10), (1, .int v1), (2, .int v2), (3, .int v3)] [] (W9 N C E F P Q T G U H B O J V Y Z O9) k n) (g := True ∧ True ∧ True ∧ True ∧ True) (by with_unfolding_all rfl) ⟨trivial, trivial, trivial, trivial, trivial⟩ ?_
        by_cases c14 : r13 ≠ (3 : Int32)
        · rw [if_pos c14] at h
          refine am_ev_pos c14 ?_
          refine am_ev_st 3 (f' := am_br (r13 ≠ (5 : Int32)) 90 64 [(4, .int r13), (0, .ref 10), (1, .int v1), (2, .int v2), (3, .int v3)] [] (W9 N C E F P Q T G U H B O J V Y Z O9) k n) (g := True ∧ True ∧ True ∧ True) (by with_unfolding_all rfl) ⟨trivial, trivial, trivial, trivial⟩ ?_
          by_cases c15 : r13 ≠ (5 : Int32)
          · rw [if_pos c15] at h
            refine am_ev_pos c15 ?_
            refine am_ev_st 4 (f' := am_br ((0 : Int32) = 0) 102 95 [(5, .int (0 : Int32)), (4, .int r13), (0, .ref 10), (1, .int v1), (2, .int v2), (3, .int v3)] [] (W9 N C E F P Q T G U H B O J V Y Z O9) k n) (g := True ∧ True ∧ True ∧ True ∧ True) (by with_unfolding_all rfl) ⟨trivial, trivial, trivial, trivial, trivial⟩ ?_
            by_cases c16 : (0 : Int32) = 0
            · rw [if_pos c16] at h
              refine am_ev_pos c16 ?_
              refine am_ev_st 1 (f' := (103, [(5, .int (0 : Int32)), (4, .int r13), (0, .ref 10), (1, .int v1), (2, .int v2), (3, .int v3)], [.int (-1 : Int32)], (W9 N C E F P Q T G U H B O J V Y Z O9), k, n)) (g := True ∧ True) (by with_unfolding_all rfl) ⟨trivial, trivial⟩ ?_
              cases h
              exact am_ev_ret 0 0 0 rfl .int rfl rfl rfl
            · rw [if_neg c16] at h
              refine am_ev_neg c16 ?_
              refine am_ev_st 2 (f' := (103, [(5, .int (0 : Int32)), (4, .int r13), (0, .ref 10), (1, .int v1), (2, .int v2), (3, .int v3)], [.int v2], (W9 N C E F P Q T G U H B O J V Y Z O9), k, n)) (g := True ∧ True ∧ True) (by with_unfolding_all rfl) ⟨trivial, trivial, trivial⟩ ?_
              cases h
              exact am_ev_ret 0 0 0 rfl .int rfl rfl rfl
          · rw [if_neg c15] at h
            refine am_ev_neg c15 ?_
            refine am_ev_st 5 (f' := (76, [(4, .int r13), (0, .ref 10), (1, .int v1), (2, .int v2), (3, .int v3)], [.int v2, .ref 1, .ref 7], (W9 N C E F P Q T G U H B O J V Y Z O9), k, n)) (g := True ∧ True ∧ True ∧ True ∧ True ∧ True) (by with_unfolding_all rfl) ⟨trivial, trivial, trivial, trivial, trivial, trivial⟩ ?_
            replace h := Option.bind_eq_some_iff.mp h
            obtain ⟨r17, hc17, h⟩ := h
            try dsimp only at h
            refine am_ev_call (.invokevirtual 47) 29 2 551 [.ref 1, .int v2] [.ref 7] rfl rfl rfl rfl (ok_fN_leftOf hc17 D (by omega)) rfl ?_
            replace h := Option.bind_eq_some_iff.mp h
            obtain ⟨r18, hc18, h⟩ := h
            try dsimp only at h
            refine am_ev_call (.invokevirtual 55) 5 2 552 [.ref 7, .int r17] [] rfl rfl rfl rfl (ok_fC_bodyAt hc18 D (by omega)) rfl ?_
            refine am_ev_st 2 (f' := am_br (r18 = (-1 : Int32)) 90 83 [(4, .int r13), (0, .ref 10), (1, .int v1), (2, .int v2), (3, .int v3)] [] (W9 N C E F P Q T G U H B O J V Y Z O9) k n) (g := True ∧ True ∧ True) (by with_unfolding_all rfl) ⟨trivial, trivial, trivial⟩ ?_
            by_cases c19 : r18 = (-1 : Int32)
            · rw [if_pos c19] at h
              refine am_ev_pos c19 ?_
              refine am_ev_st 4 (f' := am_br ((0 : Int32) = 0) 102 95 [(5, .int (0 : Int32)), (4, .int r13), (0, .ref 10), (1, .int v1), (2, .int v2), (3, .int v3)] [] (W9 N C E F P Q T G U H B O J V Y Z O9) k n) (g := True ∧ True ∧ True ∧ True ∧ True) (by with_unfolding_all rfl) ⟨trivial, trivial, trivial, trivial, trivial⟩ ?_
              by_cases c20 : (0 : Int32) = 0
              · rw [if_pos c20] at h
                refine am_ev_pos c20 ?_
                refine am_ev_st 1 (f' := (103, [(5, .int (0 : Int32)), (4, .int r13), (0, .ref 10), (1, .int v1), (2, .int v2), (3, .int v3)], [.int (-1 : Int32)], (W9 N C E F P Q T G U H B O J V Y Z O9), k, n)) (g := True ∧ True) (by with_unfolding_all rfl) ⟨trivial, trivial⟩ ?_
                cases h
                exact am_ev_ret 0 0 0 rfl .int rfl rfl rfl
              · rw [if_neg c20] at h
                refine am_ev_neg c20 ?_
                refine am_ev_st 2 (f' := (103, [(5, .int (0 : Int32)), (4, .int r13), (0, .ref 10), (1, .int v1), (2, .int v2), (3, .int v3)], [.int v2], (W9 N C E F P Q T G U H B O J V Y Z O9), k, n)) (g := True ∧ True ∧ True) (by with_unfolding_all rfl) ⟨trivial, trivial, trivial⟩ ?_
                cases h
                exact am_ev_ret 0 0 0 rfl .int rfl rfl rfl
            · rw [if_neg c19] at h
              refine am_ev_neg c19 ?_
              refine am_ev_st 5 (f' := am_br ((1 : Int32) = 0) 102 95 [(5, .int (1 : Int32)), (4, .int r13), (0, .ref 10), (1, .int v1), (2, .int v2), (3, .int v3)] [] (W9 N C E F P Q T G U H B O J V Y Z O9) k n) (g := True ∧ True ∧ True ∧ True ∧ True ∧ True) (by with_unfolding_all rfl) ⟨trivial, trivial, trivial, trivial, trivial, trivial⟩ ?_
              by_cases c21 : (1 : Int32) = 0
              · rw [if_pos c21] at h
                refine am_ev_pos c21 ?_
                refine am_ev_st 1 (f' := (103, [(5, .int (1 : Int32)), (4, .int r13), (0, .ref 10), (1, .int v1), (2, .int v2), (3, .int v3)], [.int (-1 : Int32)], (W9 N C E F P Q T G U H B O J V Y Z O9), k, n)) (g := True ∧ True) (by with_unfolding_all rfl) ⟨trivial, trivial⟩ ?_
                cases h
                exact am_ev_ret 0 0 0 rfl .int rfl rfl rfl
              · rw [if_neg c21] at h
                refine am_ev_neg c21 ?_
                refine am_ev_st 2 (f' := (103, [(5, .int (1 : Int32)), (4, .int r13), (0, .ref 10), (1, .int v1), (2, .int v2), (3, .int v3)], [.int v2], (W9 N C E F P Q T G U H B O J V Y Z O9), k, n)) (g := True ∧ True ∧ True) (by with_unfolding_all rfl) ⟨trivial, trivial, trivial⟩ ?_
                cases h
                exact am_ev_ret 0 0 0 rfl .int rfl rfl rfl
        · rw [if_neg c14] at h
          refine am_ev_neg c14 ?_
          refine am_ev_st 1 (f' := (60, [(4, .int r13), (0, .ref 10), (1, .int v1), (2, .int v2), (3, .int v3)], [.int v3], (W9 N C E F P Q T G U H B O J V Y Z O9), k, n)) (g := True ∧ True) (by with_unfolding_all rfl) ⟨trivial, trivial⟩ ?_
          cases h
          exact am_ev_ret 0 0 0 rfl .int rfl rfl rfl
      · rw [if_neg c12] at h
        refine am_ev_neg c12 ?_
        refine am_ev_st 5 (f' := (33, [(3, .int v2), (0, .ref 10), (1, .int v1), (2, .int v2), (4, .int v4)], [.int v2, .ref 1], (W9 N C E F P Q T G U H B O J V Y Z O9), k, n)) (g := True ∧ True ∧ True ∧ True ∧ True ∧ True) (by with_unfolding_all rfl) ⟨trivial, trivial, trivial, trivial, trivial, trivial⟩ ?_
        replace h := Option.bind_eq_some_iff.mp h
        obtain ⟨r22, hc22, h⟩ := h
        try dsimp only at h
        refine am_ev_call (.invokevirtual 47) 29 2 551 [.ref 1, .int v2] [] rfl rfl rfl rfl (ok_fN_leftOf hc22 D (by omega)) rfl ?_
        refine am_ev_st 3 (f' := (7, [(4, .int (v4 + (1 : Int32))), (2, .int r22), (3, .int v2), (0, .ref 10), (1, .int v1)], [], (W9 N C E F P Q T G U H B O J V Y Z O9), k, n)) (g := True ∧ True ∧ True ∧ True) (by with_unfolding_all rfl) ⟨trivial, trivial, trivial, trivial⟩ ?_
        refine am_ev_drop [3, 4, 1, 2, 0] rfl rfl ?_
        exact ih h
set_option maxHeartbeats 4000000 in
set_option maxRecDepth 100000 in
theorem ok_fE_nextPlace {fl : Nat} {N : cN} {C : cC} {E : cE} {F : cF} {P : cP} {Q : cQ} {T : cT} {G : cG} {U : cU} {H : cH} {B : cB} {O : cO} {J : cJ} {V : cV} {Y : cY} {Z : cZ} {O9 : cO9} {k n : Nat} {p1 : Int32} {rv : Int32} (h : fE_nextPlace fl N C p1 = some rv) (D : Nat) (hD : 3 ≤ D) : am_Call D 49 [.ref 10, .int p1] (W9 N C E F P Q T G U H B O J V Y Z O9) k n (.inl (some (.int rv)), W9 N C E F P Q T G U H B O J V Y Z O9, k, n) := by
  unfold fE_nextPlace at h
  obtain ⟨D, rfl⟩ : ∃ D', D = D' + 1 := ⟨D - 1, by omega⟩
  have hD : 2 ≤ D := by omega
  refine am_call_run (by decide) (by decide) rfl (Nat.le_of_ble_eq_true rfl) (by decide) (L := [(0, .ref 10), (1, .int p1)]) rfl ?_
  refine am_ev_st 6 (f' := (7, [(4, .int (0 : Int32)), (3, .int (-1 : Int32)), (2, .int p1), (0, .ref 10), (1, .int p1)], [], (W9 N C E F P Q T G U H B O J V Y Z O9), k, n)) (g := True ∧ True ∧ True ∧ True ∧ True ∧ True ∧ True) (by with_unfolding_all rfl) ⟨trivial, trivial, trivial, trivial, trivial, trivial, trivial⟩ ?_
  refine am_ev_drop [3, 4, 2, 1, 0] rfl rfl ?_
  exact ok_lp_fE_nextPlace_7 h D hD
def lp_fE_headForm_4 (fl : Nat) (d : Nat) : Nat → cN → cC → cE → Nat → Nat → Int32 → Int32 → Int32 → Option (((Int32) ⊕ Nat) × cN × cE × (Nat × Nat))
  | 0, _, _, _, _, _, _, _, _ => none
  | w + 1, N, C, E, k, n, v1, v2, v3 =>
    if (30 : Int32) < v3 then
    (some (.inr 2, N, E, ((k + 1), (n + 6))))
    else
    (fE_nextPlace fl N C v2).bind fun z2 =>
    match z2 with
    | (r2) =>
    if r2 ≠ (-1 : Int32) then
    (match E with
    | (fi, se, op, fu, ma) =>
    if ma < fu then
    ((fN_leftOf N r2).bind fun z5 =>
    match z5 with
    | (r5) =>
    (fN_kindOf N r2).bind fun z6 =>
    match z6 with
    | (r6) =>
    if r6 ≠ (5 : Int32) then
    (if (0 : Int32) = 0 then
    ((fN_rightOf N r5).bind fun z9 =>
    match z9 with
    | (r9) =>
    (fN_rightOf N r2).bind fun z10 =>
    match z10 with
    | (r10) =>
    (fN_changed d N k n r9 (0 : Int32) r10 (-1 : Int32)).bind fun z11 =>
    match z11 with
    | (r11, N_11, (k_11, n_11)) =>
    (fN_withHead d N_11 k_11 n_11 v2 r2 r11).bind fun z12 =>
    match z12 with
    | (r12, N_12, (k_12, n_12)) =>
    (fN_isTooMuch N_12 r12).bind fun z13 =>
    match z13 with
    | (r13) =>
    if (am_bz r13) = 0 then
    (lp_fE_headForm_4 fl d w N_12 C (fi, se, op, fu, (ma + (1 : Int32))) k_12 n_12 v1 r12 (v3 + (1 : Int32)))
    else
    some (.inr 2, N_12, E, ((k_12 + 1), (n_12 + 6))))
    else
    (fC_bodyAt C r5).bind fun z15 =>
    match z15 with
    | (r15) =>
    (fN_withHead d N k n v2 r2 r15).bind fun z16 =>
    match z16 with
    | (r16, N_16, (k_16, n_16)) =>
    (fN_isTooMuch N_16 r16).bind fun z17 =>
    match z17 with
    | (r17) =>
    if (am_bz r17) = 0 then
    (lp_fE_headForm_4 fl d w N_16 C (fi, se, op, fu, (ma + (1 : Int32))) k_16 n_16 v1 r16 (v3 + (1 : Int32)))
    else
    some (.inr 2, N_16, E, ((k_16 + 1), (n_16 + 6))))
    else
    if (1 : Int32) = 0 then
    ((fN_rightOf N r5).bind fun z20 =>
    match z20 with
    | (r20) =>
    (fN_rightOf N r2).bind fun z21 =>
    match z21 with
    | (r21) =>
    (fN_changed d N k n r20 (0 : Int32) r21 (-1 : Int32)).bind fun z22 =>
    match z22 with
    | (r22, N_22, (k_22, n_22)) =>
    (fN_withHead d N_22 k_22 n_22 v2 r2 r22).bind fun z23 =>
    match z23 with
    | (r23, N_23, (k_23, n_23)) =>
    (fN_isTooMuch N_23 r23).bind fun z24 =>
    match z24 with
    | (r24) =>
    if (am_bz r24) = 0 then
    (lp_fE_headForm_4 fl d w N_23 C (fi, se, op, fu, (ma + (1 : Int32))) k_23 n_23 v1 r23 (v3 + (1 : Int32)))
    else
    some (.inr 2, N_23, E, ((k_23 + 1), (n_23 + 6))))
    else
    (fC_bodyAt C r5).bind fun z26 =>
    match z26 with
    | (r26) =>
    (fN_withHead d N k n v2 r2 r26).bind fun z27 =>
    match z27 with
    | (r27, N_27, (k_27, n_27)) =>
    (fN_isTooMuch N_27 r27).bind fun z28 =>
    match z28 with
    | (r28) =>
    if (am_bz r28) = 0 then
    (lp_fE_headForm_4 fl d w N_27 C (fi, se, op, fu, (ma + (1 : Int32))) k_27 n_27 v1 r27 (v3 + (1 : Int32)))
    else
    some (.inr 2, N_27, E, ((k_27 + 1), (n_27 + 6))))
    else
    some (.inr 2, N, E, ((k + 1), (n + 6))))
    else
    some (.inl v2, N, E, (k, n))
def fE_headForm (fl : Nat) (d : Nat) (N : cN) (C : cC) (E : cE) (k n : Nat) (p1 : Int32) : Option (((Int32) ⊕ Nat) × cN × cE × (Nat × Nat)) :=
  lp_fE_headForm_4 fl d fl N C E k n p1 p1 (0 : Int32)
set_option maxHeartbeats 4000000 in
set_option maxRecDepth 100000 in
theorem ok_lp_fE_headForm_4 {fl d : Nat} : ∀ {w : Nat} {N : cN} {C : cC} {E : cE} {F : cF} {P : cP} {Q : cQ} {T : cT} {G : cG} {U : cU} {H : cH} {B : cB} {O : cO} {J : cJ} {V : cV} {Y : cY} {Z : cZ} {O9 : cO9} {k n : Nat} {v1 : Int32} {v2 : Int32} {v3 : Int32} {rv : (Int32) ⊕ Nat} {N' : cN} {E' : cE} {k' n' : Nat} (h : lp_fE_headForm_4 fl d w N C E k n v1 v2 v3 = some (rv, N', E', (k', n'))) (D : Nat) (hD : d + 3 ≤ D), am_Ev D 48 0 (fun _ => 0) (4, [(0, .ref 10), (1, .int v1), (2, .int v2), (3, .int v3)], [], (W9 N C E F P Q T G U H B O J V Y Z O9), k, n) (am_oI rv, W9 N' C E' F P Q T G U H B O J V Y Z O9, k', n') := by
  intro w
  induction w with
  | zero => intros; rename_i h _ _; cases h
  | succ w ih0 =>
    intro N C E F P Q T G U H B O J V Y Z O9 k n v1 v2 v3 rv N' E' k' n' h D hD
    have ih := fun {N} {C} {E} {F} {P} {Q} {T} {G} {U} {H} {B} {O} {J} {V} {Y} {Z} {O9} {k} {n} {v1} {v2} {v3} {rv} {N'} {E'} {k'} {n'} h => @ih0 N C E F P Q T G U H B O J V Y Z O9 k n v1 v2 v3 rv N' E' k' n' h D hD
    unfold lp_fE_headForm_4 at h
    refine am_ev_st 3 (f' := am_br ((30 : Int32) < v3) 173 7 [(0, .ref 10), (1, .int v1), (2, .int v2), (3, .int v3)] [] (W9 N C E F P Q T G U H B O J V Y Z O9) k n) (g := True ∧ True ∧ True ∧ True) (by with_unfolding_all rfl) ⟨trivial, trivial, trivial, trivial⟩ ?_
    by_cases c1 : (30 : Int32) < v3
    · rw [if_pos c1] at h
      refine am_ev_pos c1 ?_
      cases h
      exact am_ev_throw (.new 40) 9 2 553 rfl _ rfl rfl rfl rfl rfl rfl rfl
    · rw [if_neg c1] at h
      refine am_ev_neg c1 ?_
      refine am_ev_st 2 (f' := (12, [(0, .ref 10), (1, .int v1), (2, .int v2), (3, .int v3)], [.int v2, .ref 10], (W9 N C E F P Q T G U H B O J V Y Z O9), k, n)) (g := True ∧ True ∧ True) (by with_unfolding_all rfl) ⟨trivial, trivial, trivial⟩ ?_
      replace h := Option.bind_eq_some_iff.mp h
      obtain ⟨r2, hc2, h⟩ := h
      try dsimp only at h
      refine am_ev_call (.invokevirtual 36) 49 2 546 [.ref 10, .int v2] [] rfl rfl rfl rfl (ok_fE_nextPlace hc2 D (by omega)) rfl ?_
      refine am_ev_st 4 (f' := am_br (r2 ≠ (-1 : Int32)) 25 20 [(4, .int r2), (0, .ref 10), (1, .int v1), (2, .int v2), (3, .int v3)] [] (W9 N C E F P Q T G U H B O J V Y Z O9) k n) (g := True ∧ True ∧ True ∧ True ∧ True) (by with_unfolding_all rfl) ⟨trivial, trivial, trivial, trivial, trivial⟩ ?_
      by_cases c3 : r2 ≠ (-1 : Int32)
      · rw [if_pos c3] at h
        refine am_ev_pos c3 ?_
        obtain ⟨fi, se, op, fu, ma⟩ := E
        try dsimp only at h
        refine am_ev_st 5 (f' := am_br (ma < fu) 46 33 [(4, .int r2), (0, .ref 10), (1, .int v1), (2, .int v2), (3, .int v3)] [] (W9 N C (fi, se, op, fu, ma) F P Q T G U H B O J V Y Z O9) k n) (g := True ∧ True ∧ True ∧ True ∧ True ∧ True) (by with_unfolding_all rfl) ⟨trivial, trivial, trivial, trivial, trivial, trivial⟩ ?_
        by_cases c4 : ma < fu
        · rw [if_pos c4] at h
          refine am_ev_pos c4 ?_
          refine am_ev_st 3 (f' := (52, [(4, .int r2), (0, .ref 10), (1, .int v1), (2, .int v2), (3, .int v3)], [.int r2, .ref 1], (W9 N C (fi, se, op, fu, ma) F P Q T G U H B O J V Y Z O9), k, n)) (g := True ∧ True ∧ True ∧ True) (by with_unfolding_all rfl) ⟨trivial, trivial, trivial, trivial⟩ ?_
          replace h := Option.bind_eq_some_iff.mp h
          obtain ⟨r5, hc5, h⟩ := h
          try dsimp only at h
          refine am_ev_call (.invokevirtual 47) 29 2 551 [.ref 1, .int r2] [] rfl rfl rfl rfl (ok_fN_leftOf hc5 D (by omega)) rfl ?_
          refine am_ev_st 4 (f' := (63, [(5, .int r5), (4, .int r2), (0, .ref 10), (1, .int v1), (2, .int v2), (3, .int v3)], [.int r2, .ref 1], (W9 N C (fi, se, op, fu, ma) F P Q T G U H B O J V Y Z O9), k, n)) (g := True ∧ True ∧ True ∧ True ∧ True) (by with_unfolding_all rfl) ⟨trivial, trivial, trivial, trivial, trivial⟩ ?_
          replace h := Option.bind_eq_some_iff.mp h
          obtain ⟨r6, hc6, h⟩ := h
          try dsimp only at h
          refine am_ev_call (.invokevirtual 52) 28 2 550 [.ref 1, .int r2] [] rfl rfl rfl rfl (ok_fN_kindOf hc6 D (by omega)) rfl ?_
          refine am_ev_st 2 (f' := am_br (r6 ≠ (5 : Int32)) 74 67 [(5, .int r5), (4, .int r2), (0, .ref 10), (1, .int v1), (2, .int v2), (3, .int v3)] [] (W9 N C (fi, se, op, fu, ma) F P Q T G U H B O J V Y Z O9) k n) (g := True ∧ True ∧ True) (by with_unfolding_all rfl) ⟨trivial, trivial, trivial⟩ ?_
          by_cases c7 : r6 ≠ (5 : Int32)
          · rw [if_pos c7] at h
            refine am_ev_pos c7 ?_
            refine am_ev_st 4 (f' := am_br ((0 : Int32) = 0) 94 79 [(6, .int (0 : Int32)), (5, .int r5), (4, .int r2), (0, .ref 10), (1, .int v1), (2, .int v2), (3, .int v3)] [] (W9 N C (fi, se, op, fu, ma) F P Q T G U H B O J V Y Z O9) k n) (g := True ∧ True ∧ True ∧ True ∧ True) (by with_unfolding_all rfl) ⟨trivial, trivial, trivial, trivial, trivial⟩ ?_
            by_cases c8 : (0 : Int32) = 0
            · rw [if_pos c8] at h
              refine am_ev_pos c8 ?_
              refine am_ev_st 5 (f' := (104, [(6, .int (0 : Int32)), (5, .int r5), (4, .int r2), (0, .ref 10), (1, .int v1), (2, .int v2), (3, .int v3)], [.int r5, .ref 1, .ref 1], (W9 N C (fi, se, op, fu, ma) F P Q T G U H B O J V Y Z O9), k, n)) (g := True ∧ True ∧ True ∧ True ∧ True ∧ True) (by with_unfolding_all rfl) ⟨trivial, trivial, trivial, trivial, trivial, trivial⟩ ?_
              replace h := Option.bind_eq_some_iff.mp h
              obtain ⟨r9, hc9, h⟩ := h
              try dsimp only at h
              refine am_ev_call (.invokevirtual 60) 30 2 556 [.ref 1, .int r5] [.ref 1] rfl rfl rfl rfl (ok_fN_rightOf hc9 D (by omega)) rfl ?_
              refine am_ev_st 4 (f' := (114, [(6, .int (0 : Int32)), (5, .int r5), (4, .int r2), (0, .ref 10), (1, .int v1), (2, .int v2), (3, .int v3)], [.int r2, .ref 1, .int (0 : Int32), .int r9, .ref 1], (W9 N C (fi, se, op, fu, ma) F P Q T G U H B O J V Y Z O9), k, n)) (g := True ∧ True ∧ True ∧ True ∧ True) (by with_unfolding_all rfl) ⟨trivial, trivial, trivial, trivial, trivial⟩ ?_
              replace h := Option.bind_eq_some_iff.mp h
              obtain ⟨r10, hc10, h⟩ := h
              try dsimp only at h
              refine am_ev_call (.invokevirtual 60) 30 2 556 [.ref 1, .int r2] [.int (0 : Int32), .int r9, .ref 1] rfl rfl rfl rfl (ok_fN_rightOf hc10 D (by omega)) rfl ?_
              refine am_ev_st 1 (f' := (118, [(6, .int (0 : Int32)), (5, .int r5), (4, .int r2), (0, .ref 10), (1, .int v1), (2, .int v2), (3, .int v3)], [.int (-1 : Int32), .int r10, .int (0 : Int32), .int r9, .ref 1], (W9 N C (fi, se, op, fu, ma) F P Q T G U H B O J V Y Z O9), k, n)) (g := True ∧ True) (by with_unfolding_all rfl) ⟨trivial, trivial⟩ ?_
              replace h := Option.bind_eq_some_iff.mp h
              obtain ⟨⟨r11, N_11, ⟨k_11, n_11⟩⟩, hc11, h⟩ := h
              try dsimp only at h
              refine am_ev_call (.invokevirtual 63) 43 8 557 [.ref 1, .int r9, .int (0 : Int32), .int r10, .int (-1 : Int32)] [] rfl rfl rfl rfl (ok_fN_changed hc11 D (by omega)) rfl ?_
              refine am_ev_st 6 (f' := (132, [(7, .int r11), (6, .int (0 : Int32)), (5, .int r5), (4, .int r2), (0, .ref 10), (1, .int v1), (2, .int v2), (3, .int v3)], [.int r11, .int r2, .int v2, .ref 1], (W9 N_11 C (fi, se, op, fu, ma) F P Q T G U H B O J V Y Z O9), k_11, n_11)) (g := True ∧ True ∧ True ∧ True ∧ True ∧ True ∧ True) (by with_unfolding_all rfl) ⟨trivial, trivial, trivial, trivial, trivial, trivial, trivial⟩ ?_
              replace h := Option.bind_eq_some_iff.mp h
              obtain ⟨⟨r12, N_12, ⟨k_12, n_12⟩⟩, hc12, h⟩ := h
              try dsimp only at h
              refine am_ev_call (.invokevirtual 67) 44 6 558 [.ref 1, .int v2, .int r2, .int r11] [] rfl rfl rfl rfl (ok_fN_withHead hc12 D (by omega)) rfl ?_
              refine am_ev_st 4 (f' := (141, [(2, .int r12), (7, .int r11), (6, .int (0 : Int32)), (5, .int r5), (4, .int r2), (0, .ref 10), (1, .int v1), (3, .int v3)], [.int r12, .ref 1], (W9 N_12 C (fi, se, op, fu, ma) F P Q T G U H B O J V Y Z O9), k_12, n_12)) (g := True ∧ True ∧ True ∧ True ∧ True) (by with_unfolding_all rfl) ⟨trivial, trivial, trivial, trivial, trivial⟩ ?_
              replace h := Option.bind_eq_some_iff.mp h
              obtain ⟨r13, hc13, h⟩ := h
              try dsimp only at h
              refine am_ev_call (.invokevirtual 71) 34 2 563 [.ref 1, .int r12] [] rfl rfl rfl rfl (ok_fN_isTooMuch hc13 D (by omega)) rfl ?_
              refine am_ev_st 1 (f' := am_br ((am_bz r13) = 0) 157 144 [(2, .int r12), (7, .int r11), (6, .int (0 : Int32)), (5, .int r5), (4, .int r2), (0, .ref 10), (1, .int v1), (3, .int v3)] [] (W9 N_12 C (fi, se, op, fu, ma) F P Q T G U H B O J V Y Z O9) k_12 n_12) (g := True ∧ True) (by with_unfolding_all rfl) ⟨trivial, trivial⟩ ?_
              by_cases c14 : (am_bz r13) = 0
              · rw [if_pos c14] at h
                refine am_ev_pos c14 ?_
                refine am_ev_st 8 (f' := (4, [(3, .int (v3 + (1 : Int32))), (2, .int r12), (7, .int r11), (6, .int (0 : Int32)), (5, .int r5), (4, .int r2), (0, .ref 10), (1, .int v1)], [], (W9 N_12 C (fi, se, op, fu, (ma + (1 : Int32))) F P Q T G U H B O J V Y Z O9), k_12, n_12)) (g := True ∧ True ∧ True ∧ True ∧ True ∧ True ∧ True ∧ True ∧ True) (by with_unfolding_all rfl) ⟨trivial, trivial, trivial, trivial, trivial, trivial, trivial, trivial, trivial⟩ ?_
                refine am_ev_drop [6, 7, 1, 0] rfl rfl ?_
                exact ih h
              · rw [if_neg c14] at h
                refine am_ev_neg c14 ?_
                cases h
                exact am_ev_throw (.new 40) 8 2 553 rfl _ rfl rfl rfl rfl rfl rfl rfl
            · rw [if_neg c8] at h
              refine am_ev_neg c8 ?_
              refine am_ev_st 3 (f' := (88, [(6, .int (0 : Int32)), (5, .int r5), (4, .int r2), (0, .ref 10), (1, .int v1), (2, .int v2), (3, .int v3)], [.int r5, .ref 7], (W9 N C (fi, se, op, fu, ma) F P Q T G U H B O J V Y Z O9), k, n)) (g := True ∧ True ∧ True ∧ True) (by with_unfolding_all rfl) ⟨trivial, trivial, trivial, trivial⟩ ?_
              replace h := Option.bind_eq_some_iff.mp h
              obtain ⟨r15, hc15, h⟩ := h
              try dsimp only at h
              refine am_ev_call (.invokevirtual 55) 5 2 552 [.ref 7, .int r5] [] rfl rfl rfl rfl (ok_fC_bodyAt hc15 D (by omega)) rfl ?_
              refine am_ev_st 7 (f' := (132, [(7, .int r15), (6, .int (0 : Int32)), (5, .int r5), (4, .int r2), (0, .ref 10), (1, .int v1), (2, .int v2), (3, .int v3)], [.int r15, .int r2, .int v2, .ref 1], (W9 N C (fi, se, op, fu, ma) F P Q T G U H B O J V Y Z O9), k, n)) (g := True ∧ True ∧ True ∧ True ∧ True ∧ True ∧ True ∧ True) (by with_unfolding_all rfl) ⟨trivial, trivial, trivial, trivial, trivial, trivial, trivial, trivial⟩ ?_
              replace h := Option.bind_eq_some_iff.mp h
              obtain ⟨⟨r16, N_16, ⟨k_16, n_16⟩⟩, hc16, h⟩ := h
              try dsimp only at h
              refine am_ev_call (.invokevirtual 67) 44 6 558 [.ref 1, .int v2, .int r2, .int r15] [] rfl rfl rfl rfl (ok_fN_withHead hc16 D (by omega)) rfl ?_
              refine am_ev_st 4 (f' := (141, [(2, .int r16), (7, .int r15), (6, .int (0 : Int32)), (5, .int r5), (4, .int r2), (0, .ref 10), (1, .int v1), (3, .int v3)], [.int r16, .ref 1], (W9 N_16 C (fi, se, op, fu, ma) F P Q T G U H B O J V Y Z O9), k_16, n_16)) (g := True ∧ True ∧ True ∧ True ∧ True) (by with_unfolding_all rfl) ⟨trivial, trivial, trivial, trivial, trivial⟩ ?_
              replace h := Option.bind_eq_some_iff.mp h
              obtain ⟨r17, hc17, h⟩ := h
              try dsimp only at h
              refine am_ev_call (.invokevirtual 71) 34 2 563 [.ref 1, .int r16] [] rfl rfl rfl rfl (ok_fN_isTooMuch hc17 D (by omega)) rfl ?_
              refine am_ev_st 1 (f' := am_br ((am_bz r17) = 0) 157 144 [(2, .int r16), (7, .int r15), (6, .int (0 : Int32)), (5, .int r5), (4, .int r2), (0, .ref 10), (1, .int v1), (3, .int v3)] [] (W9 N_16 C (fi, se, op, fu, ma) F P Q T G U H B O J V Y Z O9) k_16 n_16) (g := True ∧ True) (by with_unfolding_all rfl) ⟨trivial, trivial⟩ ?_
              by_cases c18 : (am_bz r17) = 0
              · rw [if_pos c18] at h
                refine am_ev_pos c18 ?_
                refine am_ev_st 8 (f' := (4, [(3, .int (v3 + (1 : Int32))), (2, .int r16), (7, .int r15), (6, .int (0 : Int32)), (5, .int r5), (4, .int r2), (0, .ref 10), (1, .int v1)], [], (W9 N_16 C (fi, se, op, fu, (ma + (1 : Int32))) F P Q T G U H B O J V Y Z O9), k_16, n_16)) (g := True ∧ True ∧ True ∧ True ∧ True ∧ True ∧ True ∧ True ∧ True) (by with_unfolding_all rfl) ⟨trivial, trivial, trivial, trivial, trivial, trivial, trivial, trivial, trivial⟩ ?_
                refine am_ev_drop [6, 7, 1, 0] rfl rfl ?_
                exact ih h
              · rw [if_neg c18] at h
                refine am_ev_neg c18 ?_
                cases h
                exact am_ev_throw (.new 40) 8 2 553 rfl _ rfl rfl rfl rfl rfl rfl rfl
          · rw [if_neg c7] at h
            refine am_ev_neg c7 ?_
            refine am_ev_st 5 (f' := am_br ((1 : Int32) = 0) 94 79 [(6, .int (1 : Int32)), (5, .int r5), (4, .int r2), (0, .ref 10), (1, .int v1), (2, .int v2), (3, .int v3)] [] (W9 N C (fi, se, op, fu, ma) F P Q T G U H B O J V Y Z O9) k n) (g := True ∧ True ∧ True ∧ True ∧ True ∧ True) (by with_unfolding_all rfl) ⟨trivial, trivial, trivial, trivial, trivial, trivial⟩ ?_
            by_cases c19 : (1 : Int32) = 0
            · rw [if_pos c19] at h
              refine am_ev_pos c19 ?_
              refine am_ev_st 5 (f' := (104, [(6, .int (1 : Int32)), (5, .int r5), (4, .int r2), (0, .ref 10), (1, .int v1), (2, .int v2), (3, .int v3)], [.int r5, .ref 1, .ref 1], (W9 N C (fi, se, op, fu, ma) F P Q T G U H B O J V Y Z O9), k, n)) (g := True ∧ True ∧ True ∧ True ∧ True ∧ True) (by with_unfolding_all rfl) ⟨trivial, trivial, trivial, trivial, trivial, trivial⟩ ?_
              replace h := Option.bind_eq_some_iff.mp h
              obtain ⟨r20, hc20, h⟩ := h
              try dsimp only at h
              refine am_ev_call (.invokevirtual 60) 30 2 556 [.ref 1, .int r5] [.ref 1] rfl rfl rfl rfl (ok_fN_rightOf hc20 D (by omega)) rfl ?_
              refine am_ev_st 4 (f' := (114, [(6, .int (1 : Int32)), (5, .int r5), (4, .int r2), (0, .ref 10), (1, .int v1), (2, .int v2), (3, .int v3)], [.int r2, .ref 1, .int (0 : Int32), .int r20, .ref 1], (W9 N C (fi, se, op, fu, ma) F P Q T G U H B O J V Y Z O9), k, n)) (g := True ∧ True ∧ True ∧ True ∧ True) (by with_unfolding_all rfl) ⟨trivial, trivial, trivial, trivial, trivial⟩ ?_
              replace h := Option.bind_eq_some_iff.mp h
              obtain ⟨r21, hc21, h⟩ := h
              try dsimp only at h
              refine am_ev_call (.invokevirtual 60) 30 2 556 [.ref 1, .int r2] [.int (0 : Int32), .int r20, .ref 1] rfl rfl rfl rfl (ok_fN_rightOf hc21 D (by omega)) rfl ?_
              refine am_ev_st 1 (f' := (118, [(6, .int (1 : Int32)), (5, .int r5), (4, .int r2), (0, .ref 10), (1, .int v1), (2, .int v2), (3, .int v3)], [.int (-1 : Int32), .int r21, .int (0 : Int32), .int r20, .ref 1], (W9 N C (fi, se, op, fu, ma) F P Q T G U H B O J V Y Z O9), k, n)) (g := True ∧ True) (by with_unfolding_all rfl) ⟨trivial, trivial⟩ ?_
              replace h := Option.bind_eq_some_iff.mp h
              obtain ⟨⟨r22, N_22, ⟨k_22, n_22⟩⟩, hc22, h⟩ := h
              try dsimp only at h
              refine am_ev_call (.invokevirtual 63) 43 8 557 [.ref 1, .int r20, .int (0 : Int32), .int r21, .int (-1 : Int32)] [] rfl rfl rfl rfl (ok_fN_changed hc22 D (by omega)) rfl ?_
              refine am_ev_st 6 (f' := (132, [(7, .int r22), (6, .int (1 : Int32)), (5, .int r5), (4, .int r2), (0, .ref 10), (1, .int v1), (2, .int v2), (3, .int v3)], [.int r22, .int r2, .int v2, .ref 1], (W9 N_22 C (fi, se, op, fu, ma) F P Q T G U H B O J V Y Z O9), k_22, n_22)) (g := True ∧ True ∧ True ∧ True ∧ True ∧ True ∧ True) (by with_unfolding_all rfl) ⟨trivial, trivial, trivial, trivial, trivial, trivial, trivial⟩ ?_
              replace h := Option.bind_eq_some_iff.mp h
              obtain ⟨⟨r23, N_23, ⟨k_23, n_23⟩⟩, hc23, h⟩ := h
              try dsimp only at h
              refine am_ev_call (.invokevirtual 67) 44 6 558 [.ref 1, .int v2, .int r2, .int r22] [] rfl rfl rfl rfl (ok_fN_withHead hc23 D (by omega)) rfl ?_
              refine am_ev_st 4 (f' := (141, [(2, .int r23), (7, .int r22), (6, .int (1 : Int32)), (5, .int r5), (4, .int r2), (0, .ref 10), (1, .int v1), (3, .int v3)], [.int r23, .ref 1], (W9 N_23 C (fi, se, op, fu, ma) F P Q T G U H B O J V Y Z O9), k_23, n_23)) (g := True ∧ True ∧ True ∧ True ∧ True) (by with_unfolding_all rfl) ⟨trivial, trivial, trivial, trivial, trivial⟩ ?_
              replace h := Option.bind_eq_some_iff.mp h
              obtain ⟨r24, hc24, h⟩ := h
              try dsimp only at h
              refine am_ev_call (.invokevirtual 71) 34 2 563 [.ref 1, .int r23] [] rfl rfl rfl rfl (ok_fN_isTooMuch hc24 D (by omega)) rfl ?_
              refine am_ev_st 1 (f' := am_br ((am_bz r24) = 0) 157 144 [(2, .int r23), (7, .int r22), (6, .int (1 : Int32)), (5, .int r5), (4, .int r2), (0, .ref 10), (1, .int v1), (3, .int v3)] [] (W9 N_23 C (fi, se, op, fu, ma) F P Q T G U H B O J V Y Z O9) k_23 n_23) (g := True ∧ True) (by with_unfolding_all rfl) ⟨trivial, trivial⟩ ?_
              by_cases c25 : (am_bz r24) = 0
              · rw [if_pos c25] at h
                refine am_ev_pos c25 ?_
                refine am_ev_st 8 (f' := (4, [(3, .int (v3 + (1 : Int32))), (2, .int r23), (7, .int r22), (6, .int (1 : Int32)), (5, .int r5), (4, .int r2), (0, .ref 10), (1, .int v1)], [], (W9 N_23 C (fi, se, op, fu, (ma + (1 : Int32))) F P Q T G U H B O J V Y Z O9), k_23, n_23)) (g := True ∧ True ∧ True ∧ True ∧ True ∧ True ∧ True ∧ True ∧ True) (by with_unfolding_all rfl) ⟨trivial, trivial, trivial, trivial, trivial, trivial, trivial, trivial, trivial⟩ ?_
                refine am_ev_drop [6, 7, 1, 0] rfl rfl ?_
                exact ih h
              · rw [if_neg c25] at h
                refine am_ev_neg c25 ?_
                cases h
                exact am_ev_throw (.new 40) 8 2 553 rfl _ rfl rfl rfl rfl rfl rfl rfl
            · rw [if_neg c19] at h
              refine am_ev_neg c19 ?_
              refine am_ev_st 3 (f' := (88, [(6, .int (1 : Int32)), (5, .int r5), (4, .int r2), (0, .ref 10), (1, .int v1), (2, .int v2), (3, .int v3)], [.int r5, .ref 7], (W9 N C (fi, se, op, fu, ma) F P Q T G U H B O J V Y Z O9), k, n)) (g := True ∧ True ∧ True ∧ True) (by with_unfolding_all rfl) ⟨trivial, trivial, trivial, trivial⟩ ?_
              replace h := Option.bind_eq_some_iff.mp h
              obtain ⟨r26, hc26, h⟩ := h
              try dsimp only at h
              refine am_ev_call (.invokevirtual 55) 5 2 552 [.ref 7, .int r5] [] rfl rfl rfl rfl (ok_fC_bodyAt hc26 D (by omega)) rfl ?_
              refine am_ev_st 7 (f' := (132, [(7, .int r26), (6, .int (1 : Int32)), (5, .int r5), (4, .int r2), (0, .ref 10), (1, .int v1), (2, .int v2), (3, .int v3)], [.int r26, .int r2, .int v2, .ref 1], (W9 N C (fi, se, op, fu, ma) F P Q T G U H B O J V Y Z O9), k, n)) (g := True ∧ True ∧ True ∧ True ∧ True ∧ True ∧ True ∧ True) (by with_unfolding_all rfl) ⟨trivial, trivial, trivial, trivial, trivial, trivial, trivial, trivial⟩ ?_
              replace h := Option.bind_eq_some_iff.mp h
              obtain ⟨⟨r27, N_27, ⟨k_27, n_27⟩⟩, hc27, h⟩ := h
              try dsimp only at h
              refine am_ev_call (.invokevirtual 67) 44 6 558 [.ref 1, .int v2, .int r2, .int r26] [] rfl rfl rfl rfl (ok_fN_withHead hc27 D (by omega)) rfl ?_
              refine am_ev_st 4 (f' := (141, [(2, .int r27), (7, .int r26), (6, .int (1 : Int32)), (5, .int r5), (4, .int r2), (0, .ref 10), (1, .int v1), (3, .int v3)], [.int r27, .ref 1], (W9 N_27 C (fi, se, op, fu, ma) F P Q T G U H B O J V Y Z O9), k_27, n_27)) (g := True ∧ True ∧ True ∧ True ∧ True) (by with_unfolding_all rfl) ⟨trivial, trivial, trivial, trivial, trivial⟩ ?_
              replace h := Option.bind_eq_some_iff.mp h
              obtain ⟨r28, hc28, h⟩ := h
              try dsimp only at h
              refine am_ev_call (.invokevirtual 71) 34 2 563 [.ref 1, .int r27] [] rfl rfl rfl rfl (ok_fN_isTooMuch hc28 D (by omega)) rfl ?_
              refine am_ev_st 1 (f' := am_br ((am_bz r28) = 0) 157 144 [(2, .int r27), (7, .int r26), (6, .int (1 : Int32)), (5, .int r5), (4, .int r2), (0, .ref 10), (1, .int v1), (3, .int v3)] [] (W9 N_27 C (fi, se, op, fu, ma) F P Q T G U H B O J V Y Z O9) k_27 n_27) (g := True ∧ True) (by with_unfolding_all rfl) ⟨trivial, trivial⟩ ?_
              by_cases c29 : (am_bz r28) = 0
              · rw [if_pos c29] at h
                refine am_ev_pos c29 ?_
                refine am_ev_st 8 (f' := (4, [(3, .int (v3 + (1 : Int32))), (2, .int r27), (7, .int r26), (6, .int (1 : Int32)), (5, .int r5), (4, .int r2), (0, .ref 10), (1, .int v1)], [], (W9 N_27 C (fi, se, op, fu, (ma + (1 : Int32))) F P Q T G U H B O J V Y Z O9), k_27, n_27)) (g := True ∧ True ∧ True ∧ True ∧ True ∧ True ∧ True ∧ True ∧ True) (by with_unfolding_all rfl) ⟨trivial, trivial, trivial, trivial, trivial, trivial, trivial, trivial, trivial⟩ ?_
                refine am_ev_drop [6, 7, 1, 0] rfl rfl ?_
                exact ih h
              · rw [if_neg c29] at h
                refine am_ev_neg c29 ?_
                cases h
                exact am_ev_throw (.new 40) 8 2 553 rfl _ rfl rfl rfl rfl rfl rfl rfl
        · rw [if_neg c4] at h
          refine am_ev_neg c4 ?_
          cases h
          exact am_ev_throw (.new 40) 7 2 553 rfl _ rfl rfl rfl rfl rfl rfl rfl
      · rw [if_neg c3] at h
        refine am_ev_neg c3 ?_
        refine am_ev_st 1 (f' := (24, [(4, .int r2), (0, .ref 10), (1, .int v1), (2, .int v2), (3, .int v3)], [.int v2], (W9 N C E F P Q T G U H B O J V Y Z O9), k, n)) (g := True ∧ True) (by with_unfolding_all rfl) ⟨trivial, trivial⟩ ?_
        cases h
        exact am_ev_ret 0 0 0 rfl .int rfl rfl rfl
set_option maxHeartbeats 4000000 in
set_option maxRecDepth 100000 in
theorem ok_fE_headForm {fl d : Nat} {N : cN} {C : cC} {E : cE} {F : cF} {P : cP} {Q : cQ} {T : cT} {G : cG} {U : cU} {H : cH} {B : cB} {O : cO} {J : cJ} {V : cV} {Y : cY} {Z : cZ} {O9 : cO9} {k n : Nat} {p1 : Int32} {rv : (Int32) ⊕ Nat} {N' : cN} {E' : cE} {k' n' : Nat} (h : fE_headForm fl d N C E k n p1 = some (rv, N', E', (k', n'))) (D : Nat) (hD : d + 4 ≤ D) : am_Call D 48 [.ref 10, .int p1] (W9 N C E F P Q T G U H B O J V Y Z O9) k n (am_oI rv, W9 N' C E' F P Q T G U H B O J V Y Z O9, k', n') := by
  unfold fE_headForm at h
  obtain ⟨D, rfl⟩ : ∃ D', D = D' + 1 := ⟨D - 1, by omega⟩
  have hD : d + 3 ≤ D := by omega
  refine am_call_run (by decide) (by decide) rfl (Nat.le_of_ble_eq_true rfl) (by decide) (L := [(0, .ref 10), (1, .int p1)]) rfl ?_
  refine am_ev_st 4 (f' := (4, [(3, .int (0 : Int32)), (2, .int p1), (0, .ref 10), (1, .int p1)], [], (W9 N C E F P Q T G U H B O J V Y Z O9), k, n)) (g := True ∧ True ∧ True ∧ True ∧ True) (by with_unfolding_all rfl) ⟨trivial, trivial, trivial, trivial, trivial⟩ ?_
  refine am_ev_drop [2, 3, 1, 0] rfl rfl ?_
  exact ok_lp_fE_headForm_4 h D hD
def fF_levelOf (fl : Nat) (d : Nat) (N : cN) (C : cC) (E : cE) (k n : Nat) (p1 : Int32) : Option (((Int32) ⊕ Nat) × cN × cE × (Nat × Nat)) :=
  (fE_headForm fl d N C E k n p1).bind fun z1 =>
  match z1 with
  | (.inl r1, N_1, E_1, (k_1, n_1)) =>
  ((fN_kindOf N_1 r1).bind fun z2 =>
  match z2 with
  | (r2) =>
  if r2 = (1 : Int32) then
  ((fN_leftOf N_1 r1).bind fun z4 =>
  match z4 with
  | (r4) =>
  some (.inl r4, N_1, E_1, (k_1, n_1)))
  else
  some (.inr 1, N_1, E_1, ((k_1 + 1), (n_1 + 6))))
  | (.inr e1, N_1, E_1, (k_1, n_1)) =>
  (some (.inr e1, N_1, E_1, (k_1, n_1)))
set_option maxHeartbeats 4000000 in
set_option maxRecDepth 100000 in
theorem ok_fF_levelOf {fl d : Nat} {N : cN} {C : cC} {E : cE} {F : cF} {P : cP} {Q : cQ} {T : cT} {G : cG} {U : cU} {H : cH} {B : cB} {O : cO} {J : cJ} {V : cV} {Y : cY} {Z : cZ} {O9 : cO9} {k n : Nat} {p1 : Int32} {rv : (Int32) ⊕ Nat} {N' : cN} {E' : cE} {k' n' : Nat} (h : fF_levelOf fl d N C E k n p1 = some (rv, N', E', (k', n'))) (D : Nat) (hD : d + 5 ≤ D) : am_Call D 10 [.ref 13, .int p1] (W9 N C E F P Q T G U H B O J V Y Z O9) k n (am_oI rv, W9 N' C E' F P Q T G U H B O J V Y Z O9, k', n') := by
  unfold fF_levelOf at h
  obtain ⟨D, rfl⟩ : ∃ D', D = D' + 1 := ⟨D - 1, by omega⟩
  have hD : d + 4 ≤ D := by omega
  refine am_call_run (by decide) (by decide) rfl (Nat.le_of_ble_eq_true rfl) (by decide) (L := [(0, .ref 13), (1, .int p1)]) rfl ?_
  refine am_ev_st 3 (f' := (5, [(0, .ref 13), (1, .int p1)], [.int p1, .ref 10], (W9 N C E F P Q T G U H B O J V Y Z O9), k, n)) (g := True ∧ True ∧ True ∧ True) (by with_unfolding_all rfl) ⟨trivial, trivial, trivial, trivial⟩ ?_
  replace h := Option.bind_eq_some_iff.mp h
  obtain ⟨⟨r1 | e1, N_1, E_1, ⟨k_1, n_1⟩⟩, hc1, h⟩ := h
  · dsimp only at h
    refine am_ev_call (.invokevirtual 65) 48 2 542 [.ref 10, .int p1] [] rfl rfl rfl rfl (ok_fE_headForm hc1 D (by omega)) rfl ?_
    refine am_ev_st 4 (f' := (14, [(2, .int r1), (0, .ref 13), (1, .int p1)], [.int r1, .ref 1], (W9 N_1 C E_1 F P Q T G U H B O J V Y Z O9), k_1, n_1)) (g := True ∧ True ∧ True ∧ True ∧ True) (by with_unfolding_all rfl) ⟨trivial, trivial, trivial, trivial, trivial⟩ ?_
    replace h := Option.bind_eq_some_iff.mp h
    obtain ⟨r2, hc2, h⟩ := h
    try dsimp only at h
    refine am_ev_call (.invokevirtual 40) 28 2 503 [.ref 1, .int r1] [] rfl rfl rfl rfl (ok_fN_kindOf hc2 D (by omega)) rfl ?_
    refine am_ev_st 2 (f' := am_br (r2 = (1 : Int32)) 31 18 [(2, .int r1), (0, .ref 13), (1, .int p1)] [] (W9 N_1 C E_1 F P Q T G U H B O J V Y Z O9) k_1 n_1) (g := True ∧ True ∧ True) (by with_unfolding_all rfl) ⟨trivial, trivial, trivial⟩ ?_
    by_cases c3 : r2 = (1 : Int32)
    · rw [if_pos c3] at h
      refine am_ev_pos c3 ?_
      refine am_ev_st 3 (f' := (36, [(2, .int r1), (0, .ref 13), (1, .int p1)], [.int r1, .ref 1], (W9 N_1 C E_1 F P Q T G U H B O J V Y Z O9), k_1, n_1)) (g := True ∧ True ∧ True ∧ True) (by with_unfolding_all rfl) ⟨trivial, trivial, trivial, trivial⟩ ?_
      replace h := Option.bind_eq_some_iff.mp h
      obtain ⟨r4, hc4, h⟩ := h
      try dsimp only at h
      refine am_ev_call (.invokevirtual 31) 29 2 501 [.ref 1, .int r1] [] rfl rfl rfl rfl (ok_fN_leftOf hc4 D (by omega)) rfl ?_
      cases h
      exact am_ev_ret 0 0 0 rfl .int rfl rfl rfl
    · rw [if_neg c3] at h
      refine am_ev_neg c3 ?_
      cases h
      exact am_ev_throw (.new 70) 0 1 508 rfl _ rfl rfl rfl rfl rfl rfl rfl
  · dsimp only at h
    cases h
    exact am_ev_callx (.invokevirtual 65) 48 2 542 [.ref 10, .int p1] [] rfl rfl rfl rfl (ok_fE_headForm hc1 D (by omega)) rfl rfl rfl
def fF_open (F : cF) (k n : Nat) (p1 : Int32) : Option (((Unit) ⊕ Nat) × cF × (Nat × Nat)) :=
  match F with
  | (tt, tc) =>
  if tc < 0 then
  (some (.inr 2, F, ((k + 1), (n + 6))))
  else
  if tc < (12 : Int32) then
  (if (tc < 0 ∨ 12 ≤ (tc).toNatClampNeg) then none else
  some (.inl (), ((upd tt (tc).toNatClampNeg p1), (tc + (1 : Int32))), (k, n)))
  else
  some (.inr 2, F, ((k + 1), (n + 6)))
set_option maxHeartbeats 4000000 in
set_option maxRecDepth 100000 in
theorem ok_fF_open  {N : cN} {C : cC} {E : cE} {F : cF} {P : cP} {Q : cQ} {T : cT} {G : cG} {U : cU} {H : cH} {B : cB} {O : cO} {J : cJ} {V : cV} {Y : cY} {Z : cZ} {O9 : cO9} {k n : Nat} {p1 : Int32} {rv : (Unit) ⊕ Nat} {F' : cF} {k' n' : Nat} (h : fF_open F k n p1 = some (rv, F', (k', n'))) (D : Nat) (hD : 1 ≤ D) : am_Call D 15 [.ref 13, .int p1] (W9 N C E F P Q T G U H B O J V Y Z O9) k n (am_oV rv, W9 N C E F' P Q T G U H B O J V Y Z O9, k', n') := by
  unfold fF_open at h
  obtain ⟨D, rfl⟩ : ∃ D', D = D' + 1 := ⟨D - 1, by omega⟩
  have hD : 0 ≤ D := by omega
  refine am_call_run (by decide) (by decide) rfl (Nat.le_of_ble_eq_true rfl) (by decide) (L := [(0, .ref 13), (1, .int p1)]) rfl ?_
  obtain ⟨tt, tc⟩ := F
  try dsimp only at h
  refine am_ev_st 3 (f' := am_br (tc < 0) 16 4 [(0, .ref 13), (1, .int p1)] [] (W9 N C E (tt, tc) P Q T G U H B O J V Y Z O9) k n) (g := True ∧ True ∧ True ∧ True) (by with_unfolding_all rfl) ⟨trivial, trivial, trivial, trivial⟩ ?_
  by_cases c1 : tc < 0
  · rw [if_pos c1] at h
    refine am_ev_pos c1 ?_
    cases h
    exact am_ev_throw (.new 109) 4 2 574 rfl _ rfl rfl rfl rfl rfl rfl rfl
  · rw [if_neg c1] at h
    refine am_ev_neg c1 ?_
    refine am_ev_st 4 (f' := am_br (tc < (12 : Int32)) 26 13 [(0, .ref 13), (1, .int p1)] [] (W9 N C E (tt, tc) P Q T G U H B O J V Y Z O9) k n) (g := True ∧ True ∧ True ∧ True ∧ True) (by with_unfolding_all rfl) ⟨trivial, trivial, trivial, trivial, trivial⟩ ?_
    by_cases c2 : tc < (12 : Int32)
    · rw [if_pos c2] at h
      refine am_ev_pos c2 ?_
      by_cases g3 : (tc < 0 ∨ 12 ≤ (tc).toNatClampNeg)
      · rw [if_pos g3] at h; cases h
      rw [if_neg g3] at h
      refine am_ev_st 12 (f' := (46, [(0, .ref 13), (1, .int p1)], [], (W9 N C E ((upd tt (tc).toNatClampNeg p1), (tc + (1 : Int32))) P Q T G U H B O J V Y Z O9), k, n)) (g := True ∧ True ∧ True ∧ True ∧ True ∧ vp_in (tc) 12 ∧ True ∧ True ∧ True ∧ True ∧ True ∧ True ∧ True) (by with_unfolding_all rfl) ⟨trivial, trivial, trivial, trivial, trivial, g3, trivial, trivial, trivial, trivial, trivial, trivial, trivial⟩ ?_
      cases h
      exact am_ev_vret 0 0 0 rfl rfl rfl
    · rw [if_neg c2] at h
      refine am_ev_neg c2 ?_
      cases h
      exact am_ev_throw (.new 109) 4 2 574 rfl _ rfl rfl rfl rfl rfl rfl rfl
def fF_notTooMuch (N : cN) (k n : Nat) (p1 : Int32) : Option (((Int32) ⊕ Nat) × (Nat × Nat)) :=
  (fN_isTooMuch N p1).bind fun z1 =>
  match z1 with
  | (r1) =>
  if (am_bz r1) = 0 then
  (some (.inl p1, (k, n)))
  else
  some (.inr 2, ((k + 1), (n + 6)))
set_option maxHeartbeats 4000000 in
set_option maxRecDepth 100000 in
theorem ok_fF_notTooMuch  {N : cN} {C : cC} {E : cE} {F : cF} {P : cP} {Q : cQ} {T : cT} {G : cG} {U : cU} {H : cH} {B : cB} {O : cO} {J : cJ} {V : cV} {Y : cY} {Z : cZ} {O9 : cO9} {k n : Nat} {p1 : Int32} {rv : (Int32) ⊕ Nat} {k' n' : Nat} (h : fF_notTooMuch N k n p1 = some (rv, (k', n'))) (D : Nat) (hD : 3 ≤ D) : am_Call D 16 [.ref 13, .int p1] (W9 N C E F P Q T G U H B O J V Y Z O9) k n (am_oI rv, W9 N C E F P Q T G U H B O J V Y Z O9, k', n') := by
  unfold fF_notTooMuch at h
  obtain ⟨D, rfl⟩ : ∃ D', D = D' + 1 := ⟨D - 1, by omega⟩
  have hD : 2 ≤ D := by omega
  refine am_call_run (by decide) (by decide) rfl (Nat.le_of_ble_eq_true rfl) (by decide) (L := [(0, .ref 13), (1, .int p1)]) rfl ?_
  refine am_ev_st 3 (f' := (5, [(0, .ref 13), (1, .int p1)], [.int p1, .ref 1], (W9 N C E F P Q T G U H B O J V Y Z O9), k, n)) (g := True ∧ True ∧ True ∧ True) (by with_unfolding_all rfl) ⟨trivial, trivial, trivial, trivial⟩ ?_
  replace h := Option.bind_eq_some_iff.mp h
  obtain ⟨r1, hc1, h⟩ := h
  try dsimp only at h
  refine am_ev_call (.invokevirtual 114) 34 2 586 [.ref 1, .int p1] [] rfl rfl rfl rfl (ok_fN_isTooMuch hc1 D (by omega)) rfl ?_
  refine am_ev_st 1 (f' := am_br ((am_bz r1) = 0) 21 8 [(0, .ref 13), (1, .int p1)] [] (W9 N C E F P Q T G U H B O J V Y Z O9) k n) (g := True ∧ True) (by with_unfolding_all rfl) ⟨trivial, trivial⟩ ?_
  by_cases c2 : (am_bz r1) = 0
  · rw [if_pos c2] at h
    refine am_ev_pos c2 ?_
    refine am_ev_st 1 (f' := (22, [(0, .ref 13), (1, .int p1)], [.int p1], (W9 N C E F P Q T G U H B O J V Y Z O9), k, n)) (g := True ∧ True) (by with_unfolding_all rfl) ⟨trivial, trivial⟩ ?_
    cases h
    exact am_ev_ret 0 0 0 rfl .int rfl rfl rfl
  · rw [if_neg c2] at h
    refine am_ev_neg c2 ?_
    cases h
    exact am_ev_throw (.new 109) 5 2 574 rfl _ rfl rfl rfl rfl rfl rfl rfl
def fE_valueOf (E : cE) : Option (Int32) :=
  match E with
  | (fi, se, op, fu, ma) =>
  if op < 0 then
  (some (-1 : Int32))
  else
  if (Int32.ofNat 512) ≤ op then
  (some (-1 : Int32))
  else
  if (op < 0 ∨ 512 ≤ (op).toNatClampNeg) then none else
  some (fi (op).toNatClampNeg)
set_option maxHeartbeats 4000000 in
set_option maxRecDepth 100000 in
theorem ok_fE_valueOf  {N : cN} {C : cC} {E : cE} {F : cF} {P : cP} {Q : cQ} {T : cT} {G : cG} {U : cU} {H : cH} {B : cB} {O : cO} {J : cJ} {V : cV} {Y : cY} {Z : cZ} {O9 : cO9} {k n : Nat} {rv : Int32} (h : fE_valueOf E = some rv) (D : Nat) (hD : 1 ≤ D) : am_Call D 51 [.ref 10, .ref 11] (W9 N C E F P Q T G U H B O J V Y Z O9) k n (.inl (some (.int rv)), W9 N C E F P Q T G U H B O J V Y Z O9, k, n) := by
  unfold fE_valueOf at h
  obtain ⟨D, rfl⟩ : ∃ D', D = D' + 1 := ⟨D - 1, by omega⟩
  have hD : 0 ≤ D := by omega
  refine am_call_run (by decide) (by decide) rfl (Nat.le_of_ble_eq_true rfl) (by decide) (L := [(0, .ref 10), (1, .ref 11)]) rfl ?_
  obtain ⟨fi, se, op, fu, ma⟩ := E
  try dsimp only at h
  refine am_ev_st 3 (f' := am_br (op < 0) 25 4 [(0, .ref 10), (1, .ref 11)] [] (W9 N C (fi, se, op, fu, ma) F P Q T G U H B O J V Y Z O9) k n) (g := True ∧ True ∧ True ∧ True) (by with_unfolding_all rfl) ⟨trivial, trivial, trivial, trivial⟩ ?_
  by_cases c1 : op < 0
  · rw [if_pos c1] at h
    refine am_ev_pos c1 ?_
    refine am_ev_st 1 (f' := (26, [(0, .ref 10), (1, .ref 11)], [.int (-1 : Int32)], (W9 N C (fi, se, op, fu, ma) F P Q T G U H B O J V Y Z O9), k, n)) (g := True ∧ True) (by with_unfolding_all rfl) ⟨trivial, trivial⟩ ?_
    cases h
    exact am_ev_ret 0 0 0 rfl .int rfl rfl rfl
  · rw [if_neg c1] at h
    refine am_ev_neg c1 ?_
    refine am_ev_st 5 (f' := am_br ((Int32.ofNat 512) ≤ op) 25 13 [(0, .ref 10), (1, .ref 11)] [] (W9 N C (fi, se, op, fu, ma) F P Q T G U H B O J V Y Z O9) k n) (g := True ∧ True ∧ True ∧ True ∧ True ∧ True) (by with_unfolding_all rfl) ⟨trivial, trivial, trivial, trivial, trivial, trivial⟩ ?_
    by_cases c2 : (Int32.ofNat 512) ≤ op
    · rw [if_pos c2] at h
      refine am_ev_pos c2 ?_
      refine am_ev_st 1 (f' := (26, [(0, .ref 10), (1, .ref 11)], [.int (-1 : Int32)], (W9 N C (fi, se, op, fu, ma) F P Q T G U H B O J V Y Z O9), k, n)) (g := True ∧ True) (by with_unfolding_all rfl) ⟨trivial, trivial⟩ ?_
      cases h
      exact am_ev_ret 0 0 0 rfl .int rfl rfl rfl
    · rw [if_neg c2] at h
      refine am_ev_neg c2 ?_
      by_cases g3 : (op < 0 ∨ 512 ≤ (op).toNatClampNeg)
      · rw [if_pos g3] at h; cases h
      rw [if_neg g3] at h
      refine am_ev_st 5 (f' := (26, [(0, .ref 10), (1, .ref 11)], [.int (fi (op).toNatClampNeg)], (W9 N C (fi, se, op, fu, ma) F P Q T G U H B O J V Y Z O9), k, n)) (g := True ∧ True ∧ True ∧ vp_in (op) 512 ∧ True ∧ True) (by with_unfolding_all rfl) ⟨trivial, trivial, trivial, g3, trivial, trivial⟩ ?_
      cases h
      exact am_ev_ret 0 0 0 rfl .int rfl rfl rfl
