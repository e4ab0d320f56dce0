def fm_reduced (U : cU) (V : cV) : Option (Int32 × cU) :=
  match V with
  | (vf, vu, vx) =>
  some (vu, ((0 : Int32)))
set_option maxHeartbeats 4000000 in
set_option maxRecDepth 100000 in
theorem ok_fm_reduced  {N : cN} {C : cC} {E : cE} {F : cF} {P : cP} {Q : cQ} {T : cT} {G : cG} {U : cU} {H : cH} {B : cB} {O : cO} {J : cJ} {V : cV} {Y : cY} {Z : cZ} {O9 : cO9} {k n : Nat} {rv : Int32} {U' : cU} (h : fm_reduced U V = some (rv, U')) (D : Nat) (hD : 1 ≤ D) : am_Call D 125 [.ref 19] (W9 N C E F P Q T G U H B O J V Y Z O9) k n (.inl (some (.int rv)), W9 N C E F P Q T G U' H B O J V Y Z O9, k, n) := by
  unfold fm_reduced at h
  obtain ⟨D, rfl⟩ : ∃ D', D = D' + 1 := ⟨D - 1, by omega⟩
  have hD : 0 ≤ D := by omega
  refine am_call_run (by decide) (by decide) rfl (Nat.le_of_ble_eq_true rfl) (by decide) (L := [(0, .ref 19)]) rfl ?_
  obtain ⟨vf, vu, vx⟩ := V
  try dsimp only at h
  refine am_ev_st 5 (f' := (9, [(0, .ref 19)], [.int vu], (W9 N C E F P Q T G ((0 : Int32)) H B O J (vf, vu, vx) Y Z O9), k, n)) (g := True ∧ True ∧ True ∧ True ∧ True ∧ True) (by with_unfolding_all rfl) ⟨trivial, trivial, trivial, trivial, trivial, trivial⟩ ?_
  cases h
  exact am_ev_ret 0 0 0 rfl .int rfl rfl rfl
def fN_kindOf (N : cN) (p1 : Int32) : Option (Int32) :=
  if p1 < 0 then
  (some (-1 : Int32))
  else
  match N with
  | (nK, nL, nR, nS, nD, cap, mt, le, en) =>
  if (Int32.ofNat cap) ≤ p1 then
  (some (-1 : Int32))
  else
  if (p1 < 0 ∨ cap ≤ (p1).toNatClampNeg) then none else
  some (nK (p1).toNatClampNeg)
set_option maxHeartbeats 4000000 in
set_option maxRecDepth 100000 in
theorem ok_fN_kindOf  {N : cN} {C : cC} {E : cE} {F : cF} {P : cP} {Q : cQ} {T : cT} {G : cG} {U : cU} {H : cH} {B : cB} {O : cO} {J : cJ} {V : cV} {Y : cY} {Z : cZ} {O9 : cO9} {k n : Nat} {p1 : Int32} {rv : Int32} (h : fN_kindOf N p1 = some rv) (D : Nat) (hD : 1 ≤ D) : am_Call D 28 [.ref 1, .int p1] (W9 N C E F P Q T G U H B O J V Y Z O9) k n (.inl (some (.int rv)), W9 N C E F P Q T G U H B O J V Y Z O9, k, n) := by
  unfold fN_kindOf at h
  obtain ⟨D, rfl⟩ : ∃ D', D = D' + 1 := ⟨D - 1, by omega⟩
  have hD : 0 ≤ D := by omega
  refine am_call_run (by decide) (by decide) rfl (Nat.le_of_ble_eq_true rfl) (by decide) (L := [(0, .ref 1), (1, .int p1)]) rfl ?_
  refine am_ev_st 2 (f' := am_br (p1 < 0) 22 1 [(0, .ref 1), (1, .int p1)] [] (W9 N C E F P Q T G U H B O J V Y Z O9) k n) (g := True ∧ True ∧ True) (by with_unfolding_all rfl) ⟨trivial, trivial, trivial⟩ ?_
  by_cases c1 : p1 < 0
  · rw [if_pos c1] at h
    refine am_ev_pos c1 ?_
    refine am_ev_st 1 (f' := (23, [(0, .ref 1), (1, .int p1)], [.int (-1 : Int32)], (W9 N C E F P Q T G U H B O J V Y Z O9), k, n)) (g := True ∧ True) (by with_unfolding_all rfl) ⟨trivial, trivial⟩ ?_
    cases h
    exact am_ev_ret 0 0 0 rfl .int rfl rfl rfl
  · rw [if_neg c1] at h
    refine am_ev_neg c1 ?_
    obtain ⟨nK, nL, nR, nS, nD, cap, mt, le, en⟩ := N
    try dsimp only at h
    refine am_ev_st 5 (f' := am_br ((Int32.ofNat cap) ≤ p1) 22 10 [(0, .ref 1), (1, .int p1)] [] (W9 (nK, nL, nR, nS, nD, cap, mt, le, en) C E F P Q T G U H B O J V Y Z O9) k n) (g := True ∧ True ∧ True ∧ True ∧ True ∧ True) (by with_unfolding_all rfl) ⟨trivial, trivial, trivial, trivial, trivial, trivial⟩ ?_
    by_cases c2 : (Int32.ofNat cap) ≤ p1
    · rw [if_pos c2] at h
      refine am_ev_pos c2 ?_
      refine am_ev_st 1 (f' := (23, [(0, .ref 1), (1, .int p1)], [.int (-1 : Int32)], (W9 (nK, nL, nR, nS, nD, cap, mt, le, en) C E F P Q T G U H B O J V Y Z O9), k, n)) (g := True ∧ True) (by with_unfolding_all rfl) ⟨trivial, trivial⟩ ?_
      cases h
      exact am_ev_ret 0 0 0 rfl .int rfl rfl rfl
    · rw [if_neg c2] at h
      refine am_ev_neg c2 ?_
      by_cases g3 : (p1 < 0 ∨ cap ≤ (p1).toNatClampNeg)
      · rw [if_pos g3] at h; cases h
      rw [if_neg g3] at h
      refine am_ev_st 5 (f' := (23, [(0, .ref 1), (1, .int p1)], [.int (nK (p1).toNatClampNeg)], (W9 (nK, nL, nR, nS, nD, cap, mt, le, en) C E F P Q T G U H B O J V Y Z O9), k, n)) (g := True ∧ True ∧ True ∧ vp_in (p1) cap ∧ True ∧ True) (by with_unfolding_all rfl) ⟨trivial, trivial, trivial, g3, trivial, trivial⟩ ?_
      cases h
      exact am_ev_ret 0 0 0 rfl .int rfl rfl rfl
def fN_leftOf (N : cN) (p1 : Int32) : Option (Int32) :=
  if p1 < 0 then
  (some (-1 : Int32))
  else
  match N with
  | (nK, nL, nR, nS, nD, cap, mt, le, en) =>
  if (Int32.ofNat cap) ≤ p1 then
  (some (-1 : Int32))
  else
  if (p1 < 0 ∨ cap ≤ (p1).toNatClampNeg) then none else
  some (nL (p1).toNatClampNeg)
set_option maxHeartbeats 4000000 in
set_option maxRecDepth 100000 in
theorem ok_fN_leftOf  {N : cN} {C : cC} {E : cE} {F : cF} {P : cP} {Q : cQ} {T : cT} {G : cG} {U : cU} {H : cH} {B : cB} {O : cO} {J : cJ} {V : cV} {Y : cY} {Z : cZ} {O9 : cO9} {k n : Nat} {p1 : Int32} {rv : Int32} (h : fN_leftOf N p1 = some rv) (D : Nat) (hD : 1 ≤ D) : am_Call D 29 [.ref 1, .int p1] (W9 N C E F P Q T G U H B O J V Y Z O9) k n (.inl (some (.int rv)), W9 N C E F P Q T G U H B O J V Y Z O9, k, n) := by
  unfold fN_leftOf at h
  obtain ⟨D, rfl⟩ : ∃ D', D = D' + 1 := ⟨D - 1, by omega⟩
  have hD : 0 ≤ D := by omega
  refine am_call_run (by decide) (by decide) rfl (Nat.le_of_ble_eq_true rfl) (by decide) (L := [(0, .ref 1), (1, .int p1)]) rfl ?_
  refine am_ev_st 2 (f' := am_br (p1 < 0) 22 1 [(0, .ref 1), (1, .int p1)] [] (W9 N C E F P Q T G U H B O J V Y Z O9) k n) (g := True ∧ True ∧ True) (by with_unfolding_all rfl) ⟨trivial, trivial, trivial⟩ ?_
  by_cases c1 : p1 < 0
  · rw [if_pos c1] at h
    refine am_ev_pos c1 ?_
    refine am_ev_st 1 (f' := (23, [(0, .ref 1), (1, .int p1)], [.int (-1 : Int32)], (W9 N C E F P Q T G U H B O J V Y Z O9), k, n)) (g := True ∧ True) (by with_unfolding_all rfl) ⟨trivial, trivial⟩ ?_
    cases h
    exact am_ev_ret 0 0 0 rfl .int rfl rfl rfl
  · rw [if_neg c1] at h
    refine am_ev_neg c1 ?_
    obtain ⟨nK, nL, nR, nS, nD, cap, mt, le, en⟩ := N
    try dsimp only at h
    refine am_ev_st 5 (f' := am_br ((Int32.ofNat cap) ≤ p1) 22 10 [(0, .ref 1), (1, .int p1)] [] (W9 (nK, nL, nR, nS, nD, cap, mt, le, en) C E F P Q T G U H B O J V Y Z O9) k n) (g := True ∧ True ∧ True ∧ True ∧ True ∧ True) (by with_unfolding_all rfl) ⟨trivial, trivial, trivial, trivial, trivial, trivial⟩ ?_
    by_cases c2 : (Int32.ofNat cap) ≤ p1
    · rw [if_pos c2] at h
      refine am_ev_pos c2 ?_
      refine am_ev_st 1 (f' := (23, [(0, .ref 1), (1, .int p1)], [.int (-1 : Int32)], (W9 (nK, nL, nR, nS, nD, cap, mt, le, en) C E F P Q T G U H B O J V Y Z O9), k, n)) (g := True ∧ True) (by with_unfolding_all rfl) ⟨trivial, trivial⟩ ?_
      cases h
      exact am_ev_ret 0 0 0 rfl .int rfl rfl rfl
    · rw [if_neg c2] at h
      refine am_ev_neg c2 ?_
      by_cases g3 : (p1 < 0 ∨ cap ≤ (p1).toNatClampNeg)
      · rw [if_pos g3] at h; cases h
      rw [if_neg g3] at h
      refine am_ev_st 5 (f' := (23, [(0, .ref 1), (1, .int p1)], [.int (nL (p1).toNatClampNeg)], (W9 (nK, nL, nR, nS, nD, cap, mt, le, en) C E F P Q T G U H B O J V Y Z O9), k, n)) (g := True ∧ True ∧ True ∧ vp_in (p1) cap ∧ True ∧ True) (by with_unfolding_all rfl) ⟨trivial, trivial, trivial, g3, trivial, trivial⟩ ?_
      cases h
      exact am_ev_ret 0 0 0 rfl .int rfl rfl rfl
def fN_rightOf (N : cN) (p1 : Int32) : Option (Int32) :=
  if p1 < 0 then
  (some (-1 : Int32))
  else
  match N with
  | (nK, nL, nR, nS, nD, cap, mt, le, en) =>
  if (Int32.ofNat cap) ≤ p1 then
  (some (-1 : Int32))
  else
  if (p1 < 0 ∨ cap ≤ (p1).toNatClampNeg) then none else
  some (nR (p1).toNatClampNeg)
set_option maxHeartbeats 4000000 in
set_option maxRecDepth 100000 in
theorem ok_fN_rightOf  {N : cN} {C : cC} {E : cE} {F : cF} {P : cP} {Q : cQ} {T : cT} {G : cG} {U : cU} {H : cH} {B : cB} {O : cO} {J : cJ} {V : cV} {Y : cY} {Z : cZ} {O9 : cO9} {k n : Nat} {p1 : Int32} {rv : Int32} (h : fN_rightOf N p1 = some rv) (D : Nat) (hD : 1 ≤ D) : am_Call D 30 [.ref 1, .int p1] (W9 N C E F P Q T G U H B O J V Y Z O9) k n (.inl (some (.int rv)), W9 N C E F P Q T G U H B O J V Y Z O9, k, n) := by
  unfold fN_rightOf at h
  obtain ⟨D, rfl⟩ : ∃ D', D = D' + 1 := ⟨D - 1, by omega⟩
  have hD : 0 ≤ D := by omega
  refine am_call_run (by decide) (by decide) rfl (Nat.le_of_ble_eq_true rfl) (by decide) (L := [(0, .ref 1), (1, .int p1)]) rfl ?_
  refine am_ev_st 2 (f' := am_br (p1 < 0) 22 1 [(0, .ref 1), (1, .int p1)] [] (W9 N C E F P Q T G U H B O J V Y Z O9) k n) (g := True ∧ True ∧ True) (by with_unfolding_all rfl) ⟨trivial, trivial, trivial⟩ ?_
  by_cases c1 : p1 < 0
  · rw [if_pos c1] at h
    refine am_ev_pos c1 ?_
    refine am_ev_st 1 (f' := (23, [(0, .ref 1), (1, .int p1)], [.int (-1 : Int32)], (W9 N C E F P Q T G U H B O J V Y Z O9), k, n)) (g := True ∧ True) (by with_unfolding_all rfl) ⟨trivial, trivial⟩ ?_
    cases h
    exact am_ev_ret 0 0 0 rfl .int rfl rfl rfl
  · rw [if_neg c1] at h
    refine am_ev_neg c1 ?_
    obtain ⟨nK, nL, nR, nS, nD, cap, mt, le, en⟩ := N
    try dsimp only at h
    refine am_ev_st 5 (f' := am_br ((Int32.ofNat cap) ≤ p1) 22 10 [(0, .ref 1), (1, .int p1)] [] (W9 (nK, nL, nR, nS, nD, cap, mt, le, en) C E F P Q T G U H B O J V Y Z O9) k n) (g := True ∧ True ∧ True ∧ True ∧ True ∧ True) (by with_unfolding_all rfl) ⟨trivial, trivial, trivial, trivial, trivial, trivial⟩ ?_
    by_cases c2 : (Int32.ofNat cap) ≤ p1
    · rw [if_pos c2] at h
      refine am_ev_pos c2 ?_
      refine am_ev_st 1 (f' := (23, [(0, .ref 1), (1, .int p1)], [.int (-1 : Int32)], (W9 (nK, nL, nR, nS, nD, cap, mt, le, en) C E F P Q T G U H B O J V Y Z O9), k, n)) (g := True ∧ True) (by with_unfolding_all rfl) ⟨trivial, trivial⟩ ?_
      cases h
      exact am_ev_ret 0 0 0 rfl .int rfl rfl rfl
    · rw [if_neg c2] at h
      refine am_ev_neg c2 ?_
      by_cases g3 : (p1 < 0 ∨ cap ≤ (p1).toNatClampNeg)
      · rw [if_pos g3] at h; cases h
      rw [if_neg g3] at h
      refine am_ev_st 5 (f' := (23, [(0, .ref 1), (1, .int p1)], [.int (nR (p1).toNatClampNeg)], (W9 (nK, nL, nR, nS, nD, cap, mt, le, en) C E F P Q T G U H B O J V Y Z O9), k, n)) (g := True ∧ True ∧ True ∧ vp_in (p1) cap ∧ True ∧ True) (by with_unfolding_all rfl) ⟨trivial, trivial, trivial, g3, trivial, trivial⟩ ?_
      cases h
      exact am_ev_ret 0 0 0 rfl .int rfl rfl rfl
def fJ_hasParts (p1 : Int32) : Option (Bool) :=
  if p1 = (2 : Int32) then
  (some true)
  else
  if p1 = (3 : Int32) then
  (some true)
  else
  if p1 ≠ (4 : Int32) then
  (some false)
  else
  some true
set_option maxHeartbeats 4000000 in
set_option maxRecDepth 100000 in
theorem ok_fJ_hasParts  {N : cN} {C : cC} {E : cE} {F : cF} {P : cP} {Q : cQ} {T : cT} {G : cG} {U : cU} {H : cH} {B : cB} {O : cO} {J : cJ} {V : cV} {Y : cY} {Z : cZ} {O9 : cO9} {k n : Nat} {p1 : Int32} {rv : Bool} (h : fJ_hasParts p1 = some rv) (D : Nat) (hD : 1 ≤ D) : am_Call D 71 [.int p1] (W9 N C E F P Q T G U H B O J V Y Z O9) k n (.inl (some (.int (am_bz rv))), W9 N C E F P Q T G U H B O J V Y Z O9, k, n) := by
  unfold fJ_hasParts at h
  obtain ⟨D, rfl⟩ : ∃ D', D = D' + 1 := ⟨D - 1, by omega⟩
  have hD : 0 ≤ D := by omega
  refine am_call_run (by decide) (by decide) rfl (Nat.le_of_ble_eq_true rfl) (by decide) (L := [(0, .int p1)]) rfl ?_
  refine am_ev_st 3 (f' := am_br (p1 = (2 : Int32)) 15 2 [(0, .int p1)] [] (W9 N C E F P Q T G U H B O J V Y Z O9) k n) (g := True ∧ True ∧ True ∧ True) (by with_unfolding_all rfl) ⟨trivial, trivial, trivial, trivial⟩ ?_
  by_cases c1 : p1 = (2 : Int32)
  · rw [if_pos c1] at h
    refine am_ev_pos c1 ?_
    refine am_ev_st 2 (f' := (20, [(0, .int p1)], [.int (1 : Int32)], (W9 N C E F P Q T G U H B O J V Y Z O9), k, n)) (g := True ∧ True ∧ True) (by with_unfolding_all rfl) ⟨trivial, trivial, trivial⟩ ?_
    cases h
    exact am_ev_ret 0 0 0 rfl .boolean rfl am_n1 rfl
  · rw [if_neg c1] at h
    refine am_ev_neg c1 ?_
    refine am_ev_st 3 (f' := am_br (p1 = (3 : Int32)) 15 7 [(0, .int p1)] [] (W9 N C E F P Q T G U H B O J V Y Z O9) k n) (g := True ∧ True ∧ True ∧ True) (by with_unfolding_all rfl) ⟨trivial, trivial, trivial, trivial⟩ ?_
    by_cases c2 : p1 = (3 : Int32)
    · rw [if_pos c2] at h
      refine am_ev_pos c2 ?_
      refine am_ev_st 2 (f' := (20, [(0, .int p1)], [.int (1 : Int32)], (W9 N C E F P Q T G U H B O J V Y Z O9), k, n)) (g := True ∧ True ∧ True) (by with_unfolding_all rfl) ⟨trivial, trivial, trivial⟩ ?_
      cases h
      exact am_ev_ret 0 0 0 rfl .boolean rfl am_n1 rfl
    · rw [if_neg c2] at h
      refine am_ev_neg c2 ?_
      refine am_ev_st 3 (f' := am_br (p1 ≠ (4 : Int32)) 19 12 [(0, .int p1)] [] (W9 N C E F P Q T G U H B O J V Y Z O9) k n) (g := True ∧ True ∧ True ∧ True) (by with_unfolding_all rfl) ⟨trivial, trivial, trivial, trivial⟩ ?_
      by_cases c3 : p1 ≠ (4 : Int32)
      · rw [if_pos c3] at h
        refine am_ev_pos c3 ?_
        refine am_ev_st 1 (f' := (20, [(0, .int p1)], [.int (0 : Int32)], (W9 N C E F P Q T G U H B O J V Y Z O9), k, n)) (g := True ∧ True) (by with_unfolding_all rfl) ⟨trivial, trivial⟩ ?_
        cases h
        exact am_ev_ret 0 0 0 rfl .boolean rfl am_n0 rfl
      · rw [if_neg c3] at h
        refine am_ev_neg c3 ?_
        refine am_ev_st 2 (f' := (20, [(0, .int p1)], [.int (1 : Int32)], (W9 N C E F P Q T G U H B O J V Y Z O9), k, n)) (g := True ∧ True ∧ True) (by with_unfolding_all rfl) ⟨trivial, trivial, trivial⟩ ?_
        cases h
        exact am_ev_ret 0 0 0 rfl .boolean rfl am_n1 rfl
def fM_writeNode_P : Nat → cN → cP → Int32 → Option (cP)
  | 0, _, _, _ => none
  | d + 1, N, P, p2 =>
    match P with
    | (pr, pl, px) =>
    if pl < 0 then
    (some P)
    else
    if pl < (60 : Int32) then
    ((fN_kindOf N p2).bind fun z3 =>
    match z3 with
    | (r3) =>
    (fJ_hasParts r3).bind fun z4 =>
    match z4 with
    | (r4) =>
    if (am_bz r4) = 0 then
    ((fN_leftOf N p2).bind fun z6 =>
    match z6 with
    | (r6) =>
    if (pl < 0 ∨ 60 ≤ (pl).toNatClampNeg) then none else
    (fJ_hasParts r3).bind fun z8 =>
    match z8 with
    | (r8) =>
    if (am_bz r8) = 0 then
    (some ((upd pr (pl).toNatClampNeg (r3 + ((10 : Int32) * r6))), (pl + (1 : Int32)), px))
    else
    (fN_leftOf N p2).bind fun z10 =>
    match z10 with
    | (r10) =>
    (fM_writeNode_P d N ((upd pr (pl).toNatClampNeg (r3 + ((10 : Int32) * r6))), (pl + (1 : Int32)), px) r10).bind fun z11 =>
    match z11 with
    | (P_11) =>
    (fN_rightOf N p2).bind fun z12 =>
    match z12 with
    | (r12) =>
    (fM_writeNode_P d N P_11 r12).bind fun z13 =>
    match z13 with
    | (P_13) =>
    some P_13)
    else
    if (pl < 0 ∨ 60 ≤ (pl).toNatClampNeg) then none else
    (fJ_hasParts r3).bind fun z15 =>
    match z15 with
    | (r15) =>
    if (am_bz r15) = 0 then
    (some ((upd pr (pl).toNatClampNeg r3), (pl + (1 : Int32)), px))
    else
    (fN_leftOf N p2).bind fun z17 =>
    match z17 with
    | (r17) =>
    (fM_writeNode_P d N ((upd pr (pl).toNatClampNeg r3), (pl + (1 : Int32)), px) r17).bind fun z18 =>
    match z18 with
    | (P_18) =>
    (fN_rightOf N p2).bind fun z19 =>
    match z19 with
    | (r19) =>
    (fM_writeNode_P d N P_18 r19).bind fun z20 =>
    match z20 with
    | (P_20) =>
    some P_20)
    else
    some P
set_option maxHeartbeats 4000000 in
set_option maxRecDepth 100000 in
theorem ok_fM_writeNode_P  : ∀ {d : Nat} {N : cN} {C : cC} {E : cE} {F : cF} {P : cP} {Q : cQ} {T : cT} {G : cG} {U : cU} {H : cH} {B : cB} {O : cO} {J : cJ} {V : cV} {Y : cY} {Z : cZ} {O9 : cO9} {k n : Nat} {p2 : Int32} {P' : cP} (h : fM_writeNode_P d N P p2 = some P') (D : Nat) (hD : d + 1 ≤ D), am_Call D 22 [.ref 15, .ref 1, .int p2] (W9 N C E F P Q T G U H B O J V Y Z O9) k n (.inl none, W9 N C E F P' Q T G U H B O J V Y Z O9, k, n) := by
  intro d
  induction d with
  | zero => intros; rename_i h _ _; cases h
  | succ d ih0 =>
    intro N C E F P Q T G U H B O J V Y Z O9 k n p2 P' h D hD
    have ih := fun {N} {C} {E} {F} {P} {Q} {T} {G} {U} {H} {B} {O} {J} {V} {Y} {Z} {O9} {k} {n} {p2} {P'} h D hD => @ih0 N C E F P Q T G U H B O J V Y Z O9 k n p2 P' h D hD
    unfold fM_writeNode_P at h
    obtain ⟨D, rfl⟩ : ∃ D', D = D' + 1 := ⟨D - 1, by omega⟩
    refine am_call_run (by decide) (by decide) rfl (Nat.le_of_ble_eq_true rfl) (by decide) (L := [(0, .ref 15), (1, .ref 1), (2, .int p2)]) rfl ?_
    obtain ⟨pr, pl, px⟩ := P
    try dsimp only at h
    refine am_ev_st 3 (f' := am_br (pl < 0) 16 4 [(0, .ref 15), (1, .ref 1), (2, .int p2)] [] (W9 N C E F (pr, pl, px) Q T G U H B O J V Y Z O9) k n) (g := True ∧ True ∧ True ∧ True) (by with_unfolding_all rfl) ⟨trivial, trivial, trivial, trivial⟩ ?_
    by_cases c1 : pl < 0
    · rw [if_pos c1] at h
      refine am_ev_pos c1 ?_
      cases h
      exact am_ev_vret 0 0 0 rfl rfl rfl
    · rw [if_neg c1] at h
      refine am_ev_neg c1 ?_
      refine am_ev_st 4 (f' := am_br (pl < (60 : Int32)) 17 13 [(0, .ref 15), (1, .ref 1), (2, .int p2)] [] (W9 N C E F (pr, pl, px) Q T G U H B O J V Y Z O9) k n) (g := True ∧ True ∧ True ∧ True ∧ True) (by with_unfolding_all rfl) ⟨trivial, trivial, trivial, trivial, trivial⟩ ?_
      by_cases c2 : pl < (60 : Int32)
      · rw [if_pos c2] at h
        refine am_ev_pos c2 ?_
        refine am_ev_st 2 (f' := (19, [(0, .ref 15), (1, .ref 1), (2, .int p2)], [.int p2, .ref 1], (W9 N C E F (pr, pl, px) Q T G U H B O J V Y Z O9), k, n)) (g := True ∧ True ∧ True) (by with_unfolding_all rfl) ⟨trivial, trivial, trivial⟩ ?_
        replace h := Option.bind_eq_some_iff.mp h
        obtain ⟨r3, hc3, h⟩ := h
        try dsimp only at h
        refine am_ev_call (.invokevirtual 30) 28 2 309 [.ref 1, .int p2] [] rfl rfl rfl rfl (ok_fN_kindOf hc3 D (by omega)) rfl ?_
        refine am_ev_st 6 (f' := (32, [(3, .int r3), (0, .ref 15), (1, .ref 1), (2, .int p2)], [.int r3, .int pl, .ref 16], (W9 N C E F (pr, pl, px) Q T G U H B O J V Y Z O9), k, n)) (g := True ∧ True ∧ True ∧ True ∧ True ∧ True ∧ True) (by with_unfolding_all rfl) ⟨trivial, trivial, trivial, trivial, trivial, trivial, trivial⟩ ?_
        replace h := Option.bind_eq_some_iff.mp h
        obtain ⟨r4, hc4, h⟩ := h
        try dsimp only at h
        refine am_ev_call (.invokestatic 35) 71 3 310 [.int r3] [.int pl, .ref 16] rfl rfl rfl rfl (ok_fJ_hasParts hc4 D (by omega)) rfl ?_
        refine am_ev_st 1 (f' := am_br ((am_bz r4) = 0) 42 35 [(3, .int r3), (0, .ref 15), (1, .ref 1), (2, .int p2)] [.int pl, .ref 16] (W9 N C E F (pr, pl, px) Q T G U H B O J V Y Z O9) k n) (g := True ∧ True) (by with_unfolding_all rfl) ⟨trivial, trivial⟩ ?_
        by_cases c5 : (am_bz r4) = 0
        · rw [if_pos c5] at h
          refine am_ev_pos c5 ?_
          refine am_ev_st 4 (f' := (47, [(3, .int r3), (0, .ref 15), (1, .ref 1), (2, .int p2)], [.int p2, .ref 1, .int (10 : Int32), .int r3, .int pl, .ref 16], (W9 N C E F (pr, pl, px) Q T G U H B O J V Y Z O9), k, n)) (g := True ∧ True ∧ True ∧ True ∧ True) (by with_unfolding_all rfl) ⟨trivial, trivial, trivial, trivial, trivial⟩ ?_
          replace h := Option.bind_eq_some_iff.mp h
          obtain ⟨r6, hc6, h⟩ := h
          try dsimp only at h
          refine am_ev_call (.invokevirtual 39) 29 2 311 [.ref 1, .int p2] [.int (10 : Int32), .int r3, .int pl, .ref 16] rfl rfl rfl rfl (ok_fN_leftOf hc6 D (by omega)) rfl ?_
          by_cases g7 : (pl < 0 ∨ 60 ≤ (pl).toNatClampNeg)
          · rw [if_pos g7] at h; cases h
          rw [if_neg g7] at h
          refine am_ev_st 10 (f' := (64, [(3, .int r3), (0, .ref 15), (1, .ref 1), (2, .int p2)], [.int r3], (W9 N C E F ((upd pr (pl).toNatClampNeg (r3 + ((10 : Int32) * r6))), (pl + (1 : Int32)), px) Q T G U H B O J V Y Z O9), k, n)) (g := True ∧ True ∧ vp_in (pl) 60 ∧ True ∧ True ∧ True ∧ True ∧ True ∧ True ∧ True ∧ True) (by with_unfolding_all rfl) ⟨trivial, trivial, g7, trivial, trivial, trivial, trivial, trivial, trivial, trivial, trivial⟩ ?_
          replace h := Option.bind_eq_some_iff.mp h
          obtain ⟨r8, hc8, h⟩ := h
          try dsimp only at h
          refine am_ev_call (.invokestatic 35) 71 3 310 [.int r3] [] rfl rfl rfl rfl (ok_fJ_hasParts hc8 D (by omega)) rfl ?_
          refine am_ev_st 1 (f' := am_br ((am_bz r8) = 0) 90 67 [(3, .int r3), (0, .ref 15), (1, .ref 1), (2, .int p2)] [] (W9 N C E F ((upd pr (pl).toNatClampNeg (r3 + ((10 : Int32) * r6))), (pl + (1 : Int32)), px) Q T G U H B O J V Y Z O9) k n) (g := True ∧ True) (by with_unfolding_all rfl) ⟨trivial, trivial⟩ ?_
          by_cases c9 : (am_bz r8) = 0
          · rw [if_pos c9] at h
            refine am_ev_pos c9 ?_
            cases h
            exact am_ev_vret 0 0 0 rfl rfl rfl
          · rw [if_neg c9] at h
            refine am_ev_neg c9 ?_
            refine am_ev_st 4 (f' := (74, [(3, .int r3), (0, .ref 15), (1, .ref 1), (2, .int p2)], [.int p2, .ref 1, .ref 1, .ref 15], (W9 N C E F ((upd pr (pl).toNatClampNeg (r3 + ((10 : Int32) * r6))), (pl + (1 : Int32)), px) Q T G U H B O J V Y Z O9), k, n)) (g := True ∧ True ∧ True ∧ True ∧ True) (by with_unfolding_all rfl) ⟨trivial, trivial, trivial, trivial, trivial⟩ ?_
            replace h := Option.bind_eq_some_iff.mp h
            obtain ⟨r10, hc10, h⟩ := h
            try dsimp only at h
            refine am_ev_call (.invokevirtual 39) 29 2 311 [.ref 1, .int p2] [.ref 1, .ref 15] rfl rfl rfl rfl (ok_fN_leftOf hc10 D (by omega)) rfl ?_
            replace h := Option.bind_eq_some_iff.mp h
            obtain ⟨P_11, hc11, h⟩ := h
            try dsimp only at h
            refine am_ev_call (.invokevirtual 26) 22 4 305 [.ref 15, .ref 1, .int r10] [] rfl rfl rfl rfl (ih hc11 D (by omega)) rfl ?_
            refine am_ev_st 4 (f' := (84, [(3, .int r3), (0, .ref 15), (1, .ref 1), (2, .int p2)], [.int p2, .ref 1, .ref 1, .ref 15], (W9 N C E F P_11 Q T G U H B O J V Y Z O9), k, n)) (g := True ∧ True ∧ True ∧ True ∧ True) (by with_unfolding_all rfl) ⟨trivial, trivial, trivial, trivial, trivial⟩ ?_
            replace h := Option.bind_eq_some_iff.mp h
            obtain ⟨r12, hc12, h⟩ := h
            try dsimp only at h
            refine am_ev_call (.invokevirtual 42) 30 2 312 [.ref 1, .int p2] [.ref 1, .ref 15] rfl rfl rfl rfl (ok_fN_rightOf hc12 D (by omega)) rfl ?_
            replace h := Option.bind_eq_some_iff.mp h
            obtain ⟨P_13, hc13, h⟩ := h
            try dsimp only at h
            refine am_ev_call (.invokevirtual 26) 22 4 305 [.ref 15, .ref 1, .int r12] [] rfl rfl rfl rfl (ih hc13 D (by omega)) rfl ?_
            cases h
            exact am_ev_vret 0 0 0 rfl rfl rfl
        · rw [if_neg c5] at h
          refine am_ev_neg c5 ?_
          by_cases g14 : (pl < 0 ∨ 60 ≤ (pl).toNatClampNeg)
          · rw [if_pos g14] at h; cases h
          rw [if_neg g14] at h
          refine am_ev_st 10 (f' := (64, [(3, .int r3), (0, .ref 15), (1, .ref 1), (2, .int p2)], [.int r3], (W9 N C E F ((upd pr (pl).toNatClampNeg r3), (pl + (1 : Int32)), px) Q T G U H B O J V Y Z O9), k, n)) (g := True ∧ True ∧ vp_in (pl) 60 ∧ True ∧ True ∧ True ∧ True ∧ True ∧ True ∧ True ∧ True) (by with_unfolding_all rfl) ⟨trivial, trivial, g14, trivial, trivial, trivial, trivial, trivial, trivial, trivial, trivial⟩ ?_
          replace h := Option.bind_eq_some_iff.mp h
          obtain ⟨r15, hc15, h⟩ := h
          try dsimp only at h
          refine am_ev_call (.invokestatic 35) 71 3 310 [.int r3] [] rfl rfl rfl rfl (ok_fJ_hasParts hc15 D (by omega)) rfl ?_
          refine am_ev_st 1 (f' := am_br ((am_bz r15) = 0) 90 67 [(3, .int r3), (0, .ref 15), (1, .ref 1), (2, .int p2)] [] (W9 N C E F ((upd pr (pl).toNatClampNeg r3), (pl + (1 : Int32)), px) Q T G U H B O J V Y Z O9) k n) (g := True ∧ True) (by with_unfolding_all rfl) ⟨trivial, trivial⟩ ?_
          by_cases c16 : (am_bz r15) = 0
          · rw [if_pos c16] at h
            refine am_ev_pos c16 ?_
            cases h
            exact am_ev_vret 0 0 0 rfl rfl rfl
          · rw [if_neg c16] at h
            refine am_ev_neg c16 ?_
            refine am_ev_st 4 (f' := (74, [(3, .int r3), (0, .ref 15), (1, .ref 1), (2, .int p2)], [.int p2, .ref 1, .ref 1, .ref 15], (W9 N C E F ((upd pr (pl).toNatClampNeg r3), (pl + (1 : Int32)), px) Q T G U H B O J V Y Z O9), k, n)) (g := True ∧ True ∧ True ∧ True ∧ True) (by with_unfolding_all rfl) ⟨trivial, trivial, trivial, trivial, trivial⟩ ?_
            replace h := Option.bind_eq_some_iff.mp h
            obtain ⟨r17, hc17, h⟩ := h
            try dsimp only at h
            refine am_ev_call (.invokevirtual 39) 29 2 311 [.ref 1, .int p2] [.ref 1, .ref 15] rfl rfl rfl rfl (ok_fN_leftOf hc17 D (by omega)) rfl ?_
            replace h := Option.bind_eq_some_iff.mp h
            obtain ⟨P_18, hc18, h⟩ := h
            try dsimp only at h
            refine am_ev_call (.invokevirtual 26) 22 4 305 [.ref 15, .ref 1, .int r17] [] rfl rfl rfl rfl (ih hc18 D (by omega)) rfl ?_
            refine am_ev_st 4 (f' := (84, [(3, .int r3), (0, .ref 15), (1, .ref 1), (2, .int p2)], [.int p2, .ref 1, .ref 1, .ref 15], (W9 N C E F P_18 Q T G U H B O J V Y Z O9), k, n)) (g := True ∧ True ∧ True ∧ True ∧ True) (by with_unfolding_all rfl) ⟨trivial, trivial, trivial, trivial, trivial⟩ ?_
            replace h := Option.bind_eq_some_iff.mp h
            obtain ⟨r19, hc19, h⟩ := h
            try dsimp only at h
            refine am_ev_call (.invokevirtual 42) 30 2 312 [.ref 1, .int p2] [.ref 1, .ref 15] rfl rfl rfl rfl (ok_fN_rightOf hc19 D (by omega)) rfl ?_
            replace h := Option.bind_eq_some_iff.mp h
            obtain ⟨P_20, hc20, h⟩ := h
            try dsimp only at h
            refine am_ev_call (.invokevirtual 26) 22 4 305 [.ref 15, .ref 1, .int r19] [] rfl rfl rfl rfl (ih hc20 D (by omega)) rfl ?_
            cases h
            exact am_ev_vret 0 0 0 rfl rfl rfl
      · rw [if_neg c2] at h
        refine am_ev_neg c2 ?_
        cases h
        exact am_ev_vret 0 0 0 rfl rfl rfl
def fM_write_P (d : Nat) (N : cN) (P : cP) (p2 : Int32) : Option (Int32 × cP) :=
  match P with
  | (pr, pl, px) =>
  (fM_writeNode_P d N (pr, (0 : Int32), px) p2).bind fun z1 =>
  match z1 with
  | (P_1) =>
  match P_1 with
  | (pr_1, pl_1, px_1) =>
  some (pl_1, P_1)
set_option maxHeartbeats 4000000 in
set_option maxRecDepth 100000 in
theorem ok_fM_write_P {d : Nat} {N : cN} {C : cC} {E : cE} {F : cF} {P : cP} {Q : cQ} {T : cT} {G : cG} {U : cU} {H : cH} {B : cB} {O : cO} {J : cJ} {V : cV} {Y : cY} {Z : cZ} {O9 : cO9} {k n : Nat} {p2 : Int32} {rv : Int32} {P' : cP} (h : fM_write_P d N P p2 = some (rv, P')) (D : Nat) (hD : d + 2 ≤ D) : am_Call D 21 [.ref 15, .ref 1, .int p2] (W9 N C E F P Q T G U H B O J V Y Z O9) k n (.inl (some (.int rv)), W9 N C E F P' Q T G U H B O J V Y Z O9, k, n) := by
  unfold fM_write_P at h
  obtain ⟨D, rfl⟩ : ∃ D', D = D' + 1 := ⟨D - 1, by omega⟩
  have hD : d + 1 ≤ D := by omega
  refine am_call_run (by decide) (by decide) rfl (Nat.le_of_ble_eq_true rfl) (by decide) (L := [(0, .ref 15), (1, .ref 1), (2, .int p2)]) rfl ?_
  obtain ⟨pr, pl, px⟩ := P
  try dsimp only at h
  refine am_ev_st 6 (f' := (8, [(0, .ref 15), (1, .ref 1), (2, .int p2)], [.int p2, .ref 1, .ref 15], (W9 N C E F (pr, (0 : Int32), px) Q T G U H B O J V Y Z O9), k, n)) (g := True ∧ True ∧ True ∧ True ∧ True ∧ True ∧ True) (by with_unfolding_all rfl) ⟨trivial, trivial, trivial, trivial, trivial, trivial, trivial⟩ ?_
  replace h := Option.bind_eq_some_iff.mp h
  obtain ⟨P_1, hc1, h⟩ := h
  try dsimp only at h
  refine am_ev_call (.invokevirtual 26) 22 4 305 [.ref 15, .ref 1, .int p2] [] rfl rfl rfl rfl (ok_fM_writeNode_P hc1 D (by omega)) rfl ?_
  obtain ⟨pr_1, pl_1, px_1⟩ := P_1
  try dsimp only at h
  refine am_ev_st 2 (f' := (15, [(0, .ref 15), (1, .ref 1), (2, .int p2)], [.int pl_1], (W9 N C E F (pr_1, pl_1, px_1) Q T G U H B O J V Y Z O9), k, n)) (g := True ∧ True ∧ True) (by with_unfolding_all rfl) ⟨trivial, trivial, trivial⟩ ?_
  cases h
  exact am_ev_ret 0 0 0 rfl .int rfl rfl rfl
def fN_isTerm (N : cN) (p1 : Int32) : Option (Bool) :=
  if p1 < 0 then
  (some false)
  else
  match N with
  | (nK, nL, nR, nS, nD, cap, mt, le, en) =>
  if mt ≤ p1 then
  (some false)
  else
  some true
set_option maxHeartbeats 4000000 in
set_option maxRecDepth 100000 in
theorem ok_fN_isTerm  {N : cN} {C : cC} {E : cE} {F : cF} {P : cP} {Q : cQ} {T : cT} {G : cG} {U : cU} {H : cH} {B : cB} {O : cO} {J : cJ} {V : cV} {Y : cY} {Z : cZ} {O9 : cO9} {k n : Nat} {p1 : Int32} {rv : Bool} (h : fN_isTerm N p1 = some rv) (D : Nat) (hD : 1 ≤ D) : am_Call D 27 [.ref 1, .int p1] (W9 N C E F P Q T G U H B O J V Y Z O9) k n (.inl (some (.int (am_bz rv))), W9 N C E F P Q T G U H B O J V Y Z O9, k, n) := by
  unfold fN_isTerm at h
  obtain ⟨D, rfl⟩ : ∃ D', D = D' + 1 := ⟨D - 1, by omega⟩
  have hD : 0 ≤ D := by omega
  refine am_call_run (by decide) (by decide) rfl (Nat.le_of_ble_eq_true rfl) (by decide) (L := [(0, .ref 1), (1, .int p1)]) rfl ?_
  refine am_ev_st 2 (f' := am_br (p1 < 0) 16 1 [(0, .ref 1), (1, .int p1)] [] (W9 N C E F P Q T G U H B O J V Y Z O9) k n) (g := True ∧ True ∧ True) (by with_unfolding_all rfl) ⟨trivial, trivial, trivial⟩ ?_
  by_cases c1 : p1 < 0
  · rw [if_pos c1] at h
    refine am_ev_pos c1 ?_
    refine am_ev_st 1 (f' := (17, [(0, .ref 1), (1, .int p1)], [.int (0 : Int32)], (W9 N C E F P Q T G U H B O J V Y Z O9), k, n)) (g := True ∧ True) (by with_unfolding_all rfl) ⟨trivial, trivial⟩ ?_
    cases h
    exact am_ev_ret 0 0 0 rfl .boolean rfl am_n0 rfl
  · rw [if_neg c1] at h
    refine am_ev_neg c1 ?_
    obtain ⟨nK, nL, nR, nS, nD, cap, mt, le, en⟩ := N
    try dsimp only at h
    refine am_ev_st 4 (f' := am_br (mt ≤ p1) 16 9 [(0, .ref 1), (1, .int p1)] [] (W9 (nK, nL, nR, nS, nD, cap, mt, le, en) C E F P Q T G U H B O J V Y Z O9) k n) (g := True ∧ True ∧ True ∧ True ∧ True) (by with_unfolding_all rfl) ⟨trivial, trivial, trivial, trivial, trivial⟩ ?_
    by_cases c2 : mt ≤ p1
    · rw [if_pos c2] at h
      refine am_ev_pos c2 ?_
      refine am_ev_st 1 (f' := (17, [(0, .ref 1), (1, .int p1)], [.int (0 : Int32)], (W9 (nK, nL, nR, nS, nD, cap, mt, le, en) C E F P Q T G U H B O J V Y Z O9), k, n)) (g := True ∧ True) (by with_unfolding_all rfl) ⟨trivial, trivial⟩ ?_
      cases h
      exact am_ev_ret 0 0 0 rfl .boolean rfl am_n0 rfl
    · rw [if_neg c2] at h
      refine am_ev_neg c2 ?_
      refine am_ev_st 2 (f' := (17, [(0, .ref 1), (1, .int p1)], [.int (1 : Int32)], (W9 (nK, nL, nR, nS, nD, cap, mt, le, en) C E F P Q T G U H B O J V Y Z O9), k, n)) (g := True ∧ True ∧ True) (by with_unfolding_all rfl) ⟨trivial, trivial, trivial⟩ ?_
      cases h
      exact am_ev_ret 0 0 0 rfl .boolean rfl am_n1 rfl
def fN_dropPassing (N : cN) : Option (cN) :=
  match N with
  | (nK, nL, nR, nS, nD, cap, mt, le, en) =>
  some (nK, nL, nR, nS, nD, cap, mt, le, le)
set_option maxHeartbeats 4000000 in
set_option maxRecDepth 100000 in
theorem ok_fN_dropPassing  {N : cN} {C : cC} {E : cE} {F : cF} {P : cP} {Q : cQ} {T : cT} {G : cG} {U : cU} {H : cH} {B : cB} {O : cO} {J : cJ} {V : cV} {Y : cY} {Z : cZ} {O9 : cO9} {k n : Nat} {N' : cN} (h : fN_dropPassing N = some N') (D : Nat) (hD : 1 ≤ D) : am_Call D 41 [.ref 1] (W9 N C E F P Q T G U H B O J V Y Z O9) k n (.inl none, W9 N' C E F P Q T G U H B O J V Y Z O9, k, n) := by
  unfold fN_dropPassing at h
  obtain ⟨D, rfl⟩ : ∃ D', D = D' + 1 := ⟨D - 1, by omega⟩
  have hD : 0 ≤ D := by omega
  refine am_call_run (by decide) (by decide) rfl (Nat.le_of_ble_eq_true rfl) (by decide) (L := [(0, .ref 1)]) rfl ?_
  obtain ⟨nK, nL, nR, nS, nD, cap, mt, le, en⟩ := N
  try dsimp only at h
  refine am_ev_st 4 (f' := (8, [(0, .ref 1)], [], (W9 (nK, nL, nR, nS, nD, cap, mt, le, le) C E F P Q T G U H B O J V Y Z O9), k, n)) (g := True ∧ True ∧ True ∧ True ∧ True) (by with_unfolding_all rfl) ⟨trivial, trivial, trivial, trivial, trivial⟩ ?_
  cases h
  exact am_ev_vret 0 0 0 rfl rfl rfl
def fE_refuel (E : cE) (p1 : Int32) : Option (cE) :=
  match E with
  | (fi, se, op, fu, ma) =>
  some (fi, se, op, p1, (0 : Int32))
set_option maxHeartbeats 4000000 in
set_option maxRecDepth 100000 in
theorem ok_fE_refuel  {N : cN} {C : cC} {E : cE} {F : cF} {P : cP} {Q : cQ} {T : cT} {G : cG} {U : cU} {H : cH} {B : cB} {O : cO} {J : cJ} {V : cV} {Y : cY} {Z : cZ} {O9 : cO9} {k n : Nat} {p1 : Int32} {E' : cE} (h : fE_refuel E p1 = some E') (D : Nat) (hD : 1 ≤ D) : am_Call D 46 [.ref 10, .int p1] (W9 N C E F P Q T G U H B O J V Y Z O9) k n (.inl none, W9 N C E' F P Q T G U H B O J V Y Z O9, k, n) := by
  unfold fE_refuel at h
  obtain ⟨D, rfl⟩ : ∃ D', D = D' + 1 := ⟨D - 1, by omega⟩
  have hD : 0 ≤ D := by omega
  refine am_call_run (by decide) (by decide) rfl (Nat.le_of_ble_eq_true rfl) (by decide) (L := [(0, .ref 10), (1, .int p1)]) rfl ?_
  obtain ⟨fi, se, op, fu, ma⟩ := E
  try dsimp only at h
  refine am_ev_st 6 (f' := (10, [(0, .ref 10), (1, .int p1)], [], (W9 N C (fi, se, op, p1, (0 : Int32)) F P Q T G U H B O J V Y Z O9), k, n)) (g := True ∧ True ∧ True ∧ True ∧ True ∧ True ∧ True) (by with_unfolding_all rfl) ⟨trivial, trivial, trivial, trivial, trivial, trivial, trivial⟩ ?_
  cases h
  exact am_ev_vret 0 0 0 rfl rfl rfl
def fF_forgetTypes (F : cF) : Option (cF) :=
  match F with
  | (tt, tc) =>
  some (tt, (0 : Int32))
set_option maxHeartbeats 4000000 in
set_option maxRecDepth 100000 in
theorem ok_fF_forgetTypes  {N : cN} {C : cC} {E : cE} {F : cF} {P : cP} {Q : cQ} {T : cT} {G : cG} {U : cU} {H : cH} {B : cB} {O : cO} {J : cJ} {V : cV} {Y : cY} {Z : cZ} {O9 : cO9} {k n : Nat} {F' : cF} (h : fF_forgetTypes F = some F') (D : Nat) (hD : 1 ≤ D) : am_Call D 8 [.ref 13] (W9 N C E F P Q T G U H B O J V Y Z O9) k n (.inl none, W9 N C E F' P Q T G U H B O J V Y Z O9, k, n) := by
  unfold fF_forgetTypes at h
  obtain ⟨D, rfl⟩ : ∃ D', D = D' + 1 := ⟨D - 1, by omega⟩
  have hD : 0 ≤ D := by omega
  refine am_call_run (by decide) (by decide) rfl (Nat.le_of_ble_eq_true rfl) (by decide) (L := [(0, .ref 13)]) rfl ?_
  obtain ⟨tt, tc⟩ := F
  try dsimp only at h
  refine am_ev_st 3 (f' := (5, [(0, .ref 13)], [], (W9 N C E (tt, (0 : Int32)) P Q T G U H B O J V Y Z O9), k, n)) (g := True ∧ True ∧ True ∧ True) (by with_unfolding_all rfl) ⟨trivial, trivial, trivial, trivial⟩ ?_
  cases h
  exact am_ev_vret 0 0 0 rfl rfl rfl
def fJ_begin (N : cN) (E : cE) (F : cF) (k n : Nat) (p1 p2 p3 : Int32) : Option (((Unit) ⊕ Nat) × cN × cE × cF × (Nat × Nat)) :=
  (fN_isTerm N p1).bind fun z1 =>
  match z1 with
  | (r1) =>
  if (am_bz r1) = 0 then
  (some (.inr 0, N, E, F, ((k + 1), (n + 6))))
  else
  (fN_isTerm N p2).bind fun z3 =>
  match z3 with
  | (r3) =>
  if (am_bz r3) = 0 then
  (some (.inr 0, N, E, F, ((k + 1), (n + 6))))
  else
  if p3 < 0 then
  (some (.inr 0, N, E, F, ((k + 1), (n + 6))))
  else
  if p3 ≤ (30 : Int32) then
  ((fN_dropPassing N).bind fun z7 =>
  match z7 with
  | (N_7) =>
  (fE_refuel E p3).bind fun z8 =>
  match z8 with
  | (E_8) =>
  (fF_forgetTypes F).bind fun z9 =>
  match z9 with
  | (F_9) =>
  some (.inl (), N_7, E_8, F_9, (k, n)))
  else
  some (.inr 0, N, E, F, ((k + 1), (n + 6)))
set_option maxHeartbeats 4000000 in
set_option maxRecDepth 100000 in
theorem ok_fJ_begin  {N : cN} {C : cC} {E : cE} {F : cF} {P : cP} {Q : cQ} {T : cT} {G : cG} {U : cU} {H : cH} {B : cB} {O : cO} {J : cJ} {V : cV} {Y : cY} {Z : cZ} {O9 : cO9} {k n : Nat} {p1 p2 p3 : Int32} {rv : (Unit) ⊕ Nat} {N' : cN} {E' : cE} {F' : cF} {k' n' : Nat} (h : fJ_begin N E F k n p1 p2 p3 = some (rv, N', E', F', (k', n'))) (D : Nat) (hD : 2 ≤ D) : am_Call D 73 [.ref 0, .int p1, .int p2, .int p3] (W9 N C E F P Q T G U H B O J V Y Z O9) k n (am_oV rv, W9 N' C E' F' P Q T G U H B O J V Y Z O9, k', n') := by
  unfold fJ_begin at h
  obtain ⟨D, rfl⟩ : ∃ D', D = D' + 1 := ⟨D - 1, by omega⟩
  have hD : 1 ≤ D := by omega
  refine am_call_run (by decide) (by decide) rfl (Nat.le_of_ble_eq_true rfl) (by decide) (L := [(0, .ref 0), (1, .int p1), (2, .int p2), (3, .int p3)]) rfl ?_
  refine am_ev_st 3 (f' := (5, [(0, .ref 0), (1, .int p1), (2, .int p2), (3, .int p3)], [.int p1, .ref 1], (W9 N C E F P Q T G U H B O J V Y Z O9), k, n)) (g := True ∧ True ∧ True ∧ True) (by with_unfolding_all rfl) ⟨trivial, trivial, trivial, trivial⟩ ?_
  replace h := Option.bind_eq_some_iff.mp h
  obtain ⟨r1, hc1, h⟩ := h
  try dsimp only at h
  refine am_ev_call (.invokevirtual 67) 27 2 223 [.ref 1, .int p1] [] rfl rfl rfl rfl (ok_fN_isTerm hc1 D (by omega)) rfl ?_
  refine am_ev_st 1 (f' := am_br ((am_bz r1) = 0) 32 8 [(0, .ref 0), (1, .int p1), (2, .int p2), (3, .int p3)] [] (W9 N C E F P Q T G U H B O J V Y Z O9) k n) (g := True ∧ True) (by with_unfolding_all rfl) ⟨trivial, trivial⟩ ?_
  by_cases c2 : (am_bz r1) = 0
  · rw [if_pos c2] at h
    refine am_ev_pos c2 ?_
    cases h
    exact am_ev_throw (.new 157) 11 0 469 rfl _ rfl rfl rfl rfl rfl rfl rfl
  · rw [if_neg c2] at h
    refine am_ev_neg c2 ?_
    refine am_ev_st 3 (f' := (16, [(0, .ref 0), (1, .int p1), (2, .int p2), (3, .int p3)], [.int p2, .ref 1], (W9 N C E F P Q T G U H B O J V Y Z O9), k, n)) (g := True ∧ True ∧ True ∧ True) (by with_unfolding_all rfl) ⟨trivial, trivial, trivial, trivial⟩ ?_
    replace h := Option.bind_eq_some_iff.mp h
    obtain ⟨r3, hc3, h⟩ := h
    try dsimp only at h
    refine am_ev_call (.invokevirtual 67) 27 2 223 [.ref 1, .int p2] [] rfl rfl rfl rfl (ok_fN_isTerm hc3 D (by omega)) rfl ?_
    refine am_ev_st 1 (f' := am_br ((am_bz r3) = 0) 32 19 [(0, .ref 0), (1, .int p1), (2, .int p2), (3, .int p3)] [] (W9 N C E F P Q T G U H B O J V Y Z O9) k n) (g := True ∧ True) (by with_unfolding_all rfl) ⟨trivial, trivial⟩ ?_
    by_cases c4 : (am_bz r3) = 0
    · rw [if_pos c4] at h
      refine am_ev_pos c4 ?_
      cases h
      exact am_ev_throw (.new 157) 11 0 469 rfl _ rfl rfl rfl rfl rfl rfl rfl
    · rw [if_neg c4] at h
      refine am_ev_neg c4 ?_
      refine am_ev_st 2 (f' := am_br (p3 < 0) 32 23 [(0, .ref 0), (1, .int p1), (2, .int p2), (3, .int p3)] [] (W9 N C E F P Q T G U H B O J V Y Z O9) k n) (g := True ∧ True ∧ True) (by with_unfolding_all rfl) ⟨trivial, trivial, trivial⟩ ?_
      by_cases c5 : p3 < 0
      · rw [if_pos c5] at h
        refine am_ev_pos c5 ?_
        cases h
        exact am_ev_throw (.new 157) 11 0 469 rfl _ rfl rfl rfl rfl rfl rfl rfl
      · rw [if_neg c5] at h
        refine am_ev_neg c5 ?_
        refine am_ev_st 3 (f' := am_br (p3 ≤ (30 : Int32)) 42 29 [(0, .ref 0), (1, .int p1), (2, .int p2), (3, .int p3)] [] (W9 N C E F P Q T G U H B O J V Y Z O9) k n) (g := True ∧ True ∧ True ∧ True) (by with_unfolding_all rfl) ⟨trivial, trivial, trivial, trivial⟩ ?_
        by_cases c6 : p3 ≤ (30 : Int32)
        · rw [if_pos c6] at h
          refine am_ev_pos c6 ?_
          refine am_ev_st 2 (f' := (46, [(0, .ref 0), (1, .int p1), (2, .int p2), (3, .int p3)], [.ref 1], (W9 N C E F P Q T G U H B O J V Y Z O9), k, n)) (g := True ∧ True ∧ True) (by with_unfolding_all rfl) ⟨trivial, trivial, trivial⟩ ?_
          replace h := Option.bind_eq_some_iff.mp h
          obtain ⟨N_7, hc7, h⟩ := h
          try dsimp only at h
          refine am_ev_call (.invokevirtual 164) 41 0 485 [.ref 1] [] rfl rfl rfl rfl (ok_fN_dropPassing hc7 D (by omega)) rfl ?_
          refine am_ev_st 3 (f' := (54, [(0, .ref 0), (1, .int p1), (2, .int p2), (3, .int p3)], [.int p3, .ref 10], (W9 N_7 C E F P Q T G U H B O J V Y Z O9), k, n)) (g := True ∧ True ∧ True ∧ True) (by with_unfolding_all rfl) ⟨trivial, trivial, trivial, trivial⟩ ?_
          replace h := Option.bind_eq_some_iff.mp h
          obtain ⟨E_8, hc8, h⟩ := h
          try dsimp only at h
          refine am_ev_call (.invokevirtual 167) 46 2 489 [.ref 10, .int p3] [] rfl rfl rfl rfl (ok_fE_refuel hc8 D (by omega)) rfl ?_
          refine am_ev_st 2 (f' := (61, [(0, .ref 0), (1, .int p1), (2, .int p2), (3, .int p3)], [.ref 13], (W9 N_7 C E_8 F P Q T G U H B O J V Y Z O9), k, n)) (g := True ∧ True ∧ True) (by with_unfolding_all rfl) ⟨trivial, trivial, trivial⟩ ?_
          replace h := Option.bind_eq_some_iff.mp h
          obtain ⟨F_9, hc9, h⟩ := h
          try dsimp only at h
          refine am_ev_call (.invokevirtual 170) 8 0 493 [.ref 13] [] rfl rfl rfl rfl (ok_fF_forgetTypes hc9 D (by omega)) rfl ?_
          cases h
          exact am_ev_vret 0 0 0 rfl rfl rfl
        · rw [if_neg c6] at h
          refine am_ev_neg c6 ?_
          cases h
          exact am_ev_throw (.new 157) 11 0 469 rfl _ rfl rfl rfl rfl rfl rfl rfl
def fN_fill (N : cN) (p1 p2 p3 p4 : Int32) : Option (cN) :=
  match N with
  | (nK, nL, nR, nS, nD, cap, mt, le, en) =>
  if p1 < 0 then
  (some N)
  else
  if p1 < (Int32.ofNat cap) then
  (if (p1 < 0 ∨ cap ≤ (p1).toNatClampNeg) then none else
  if (p1 < 0 ∨ cap ≤ (p1).toNatClampNeg) then none else
  if (p1 < 0 ∨ cap ≤ (p1).toNatClampNeg) then none else
  if (p1 < 0 ∨ cap ≤ (p1).toNatClampNeg) then none else
  if (p1 < 0 ∨ cap ≤ (p1).toNatClampNeg) then none else
  if p4 = (-1 : Int32) then
  (some ((upd nK (p1).toNatClampNeg p2), (upd nL (p1).toNatClampNeg p3), (upd nR (p1).toNatClampNeg p4), (upd nS (p1).toNatClampNeg (1 : Int32)), (upd nD (p1).toNatClampNeg (1 : Int32)), cap, mt, le, en))
  else
  if p3 < 0 then
  (some ((upd nK (p1).toNatClampNeg p2), (upd nL (p1).toNatClampNeg p3), (upd nR (p1).toNatClampNeg p4), (upd nS (p1).toNatClampNeg (1 : Int32)), (upd nD (p1).toNatClampNeg (1 : Int32)), cap, mt, le, en))
  else
  if (Int32.ofNat cap) ≤ p3 then
  (some ((upd nK (p1).toNatClampNeg p2), (upd nL (p1).toNatClampNeg p3), (upd nR (p1).toNatClampNeg p4), (upd nS (p1).toNatClampNeg (1 : Int32)), (upd nD (p1).toNatClampNeg (1 : Int32)), cap, mt, le, en))
  else
  if p4 < 0 then
  (some ((upd nK (p1).toNatClampNeg p2), (upd nL (p1).toNatClampNeg p3), (upd nR (p1).toNatClampNeg p4), (upd nS (p1).toNatClampNeg (1 : Int32)), (upd nD (p1).toNatClampNeg (1 : Int32)), cap, mt, le, en))
  else
  if (Int32.ofNat cap) ≤ p4 then
  (some ((upd nK (p1).toNatClampNeg p2), (upd nL (p1).toNatClampNeg p3), (upd nR (p1).toNatClampNeg p4), (upd nS (p1).toNatClampNeg (1 : Int32)), (upd nD (p1).toNatClampNeg (1 : Int32)), cap, mt, le, en))
  else
  if (p3 < 0 ∨ cap ≤ (p3).toNatClampNeg) then none else
  if (p4 < 0 ∨ cap ≤ (p4).toNatClampNeg) then none else
  if (p1 < 0 ∨ cap ≤ (p1).toNatClampNeg) then none else
  if (p3 < 0 ∨ cap ≤ (p3).toNatClampNeg) then none else
  if (p4 < 0 ∨ cap ≤ (p4).toNatClampNeg) then none else
  if (p1 < 0 ∨ cap ≤ (p1).toNatClampNeg) then none else
  some ((upd nK (p1).toNatClampNeg p2), (upd nL (p1).toNatClampNeg p3), (upd nR (p1).toNatClampNeg p4), (upd (upd nS (p1).toNatClampNeg (1 : Int32)) (p1).toNatClampNeg (((1 : Int32) + (((upd nS (p1).toNatClampNeg (1 : Int32))) (p3).toNatClampNeg)) + (((upd nS (p1).toNatClampNeg (1 : Int32))) (p4).toNatClampNeg))), (upd (upd nD (p1).toNatClampNeg (1 : Int32)) (p1).toNatClampNeg ((1 : Int32) + (if (((upd nD (p1).toNatClampNeg (1 : Int32))) (p3).toNatClampNeg) < (((upd nD (p1).toNatClampNeg (1 : Int32))) (p4).toNatClampNeg) then (((upd nD (p1).toNatClampNeg (1 : Int32))) (p4).toNatClampNeg) else (((upd nD (p1).toNatClampNeg (1 : Int32))) (p3).toNatClampNeg)))), cap, mt, le, en))
  else
  some N
set_option maxHeartbeats 4000000 in
set_option maxRecDepth 100000 in
theorem ok_fN_fill  {N : cN} {C : cC} {E : cE} {F : cF} {P : cP} {Q : cQ} {T : cT} {G : cG} {U : cU} {H : cH} {B : cB} {O : cO} {J : cJ} {V : cV} {Y : cY} {Z : cZ} {O9 : cO9} {k n : Nat} {p1 p2 p3 p4 : Int32} {N' : cN} (h : fN_fill N p1 p2 p3 p4 = some N') (D : Nat) (hD : 1 ≤ D) : am_Call D 39 [.ref 1, .int p1, .int p2, .int p3, .int p4] (W9 N C E F P Q T G U H B O J V Y Z O9) k n (.inl none, W9 N' C E F P Q T G U H B O J V Y Z O9, k, n) := by
  unfold fN_fill at h
  obtain ⟨D, rfl⟩ : ∃ D', D = D' + 1 := ⟨D - 1, by omega⟩
  have hD : 0 ≤ D := by omega
  refine am_call_run (by decide) (by decide) rfl (Nat.le_of_ble_eq_true rfl) (by decide) (L := [(0, .ref 1), (1, .int p1), (2, .int p2), (3, .int p3), (4, .int p4)]) rfl ?_
  obtain ⟨nK, nL, nR, nS, nD, cap, mt, le, en⟩ := N
  try dsimp only at h
  refine am_ev_st 6 (f' := am_br (p1 < 0) 17 8 [(5, .int (Int32.ofNat cap)), (0, .ref 1), (1, .int p1), (2, .int p2), (3, .int p3), (4, .int p4)] [] (W9 (nK, nL, nR, nS, nD, cap, mt, le, en) C E F P Q T G U H B O J V Y Z O9) k n) (g := True ∧ True ∧ True ∧ True ∧ True ∧ True ∧ True) (by with_unfolding_all rfl) ⟨trivial, trivial, trivial, trivial, trivial, trivial, trivial⟩ ?_
  by_cases c1 : p1 < 0
  · rw [if_pos c1] at h
    refine am_ev_pos c1 ?_
    cases h
    exact am_ev_vret 0 0 0 rfl rfl rfl
  · rw [if_neg c1] at h
    refine am_ev_neg c1 ?_
    refine am_ev_st 3 (f' := am_br (p1 < (Int32.ofNat cap)) 18 14 [(5, .int (Int32.ofNat cap)), (0, .ref 1), (1, .int p1), (2, .int p2), (3, .int p3), (4, .int p4)] [] (W9 (nK, nL, nR, nS, nD, cap, mt, le, en) C E F P Q T G U H B O J V Y Z O9) k n) (g := True ∧ True ∧ True ∧ True) (by with_unfolding_all rfl) ⟨trivial, trivial, trivial, trivial⟩ ?_
    by_cases c2 : p1 < (Int32.ofNat cap)
    · rw [if_pos c2] at h
      refine am_ev_pos c2 ?_
      by_cases g3 : (p1 < 0 ∨ cap ≤ (p1).toNatClampNeg)
      · rw [if_pos g3] at h; cases h
      rw [if_neg g3] at h
      by_cases g4 : (p1 < 0 ∨ cap ≤ (p1).toNatClampNeg)
      · rw [if_pos g4] at h; cases h
      rw [if_neg g4] at h
      by_cases g5 : (p1 < 0 ∨ cap ≤ (p1).toNatClampNeg)
      · rw [if_pos g5] at h; cases h
      rw [if_neg g5] at h
      by_cases g6 : (p1 < 0 ∨ cap ≤ (p1).toNatClampNeg)
      · rw [if_pos g6] at h; cases h
      rw [if_neg g6] at h
      by_cases g7 : (p1 < 0 ∨ cap ≤ (p1).toNatClampNeg)
      · rw [if_pos g7] at h; cases h
      rw [if_neg g7] at h
      refine am_ev_st 28 (f' := am_br (p4 = (-1 : Int32)) 128 57 [(5, .int (Int32.ofNat cap)), (0, .ref 1), (1, .int p1), (2, .int p2), (3, .int p3), (4, .int p4)] [] (W9 ((upd nK (p1).toNatClampNeg p2), (upd nL (p1).toNatClampNeg p3), (upd nR (p1).toNatClampNeg p4), (upd nS (p1).toNatClampNeg (1 : Int32)), (upd nD (p1).toNatClampNeg (1 : Int32)), cap, mt, le, en) C E F P Q T G U H B O J V Y Z O9) k n) (g := True ∧ True ∧ True ∧ True ∧ vp_in (p1) cap ∧ True ∧ True ∧ True ∧ True ∧ vp_in (p1) cap ∧ True ∧ True ∧ True ∧ True ∧ vp_in (p1) cap ∧ True ∧ True ∧ True ∧ True ∧ vp_in (p1) cap ∧ True ∧ True ∧ True ∧ True ∧ vp_in (p1) cap ∧ True ∧ True ∧ True ∧ True) (by with_unfolding_all rfl) ⟨trivial, trivial, trivial, trivial, g3, trivial, trivial, trivial, trivial, g4, trivial, trivial, trivial, trivial, g5, trivial, trivial, trivial, trivial, g6, trivial, trivial, trivial, trivial, g7, trivial, trivial, trivial, trivial⟩ ?_
      by_cases c8 : p4 = (-1 : Int32)
      · rw [if_pos c8] at h
        refine am_ev_pos c8 ?_
        cases h
        exact am_ev_vret 0 0 0 rfl rfl rfl
      · rw [if_neg c8] at h
        refine am_ev_neg c8 ?_
        refine am_ev_st 2 (f' := am_br (p3 < 0) 128 61 [(5, .int (Int32.ofNat cap)), (0, .ref 1), (1, .int p1), (2, .int p2), (3, .int p3), (4, .int p4)] [] (W9 ((upd nK (p1).toNatClampNeg p2), (upd nL (p1).toNatClampNeg p3), (upd nR (p1).toNatClampNeg p4), (upd nS (p1).toNatClampNeg (1 : Int32)), (upd nD (p1).toNatClampNeg (1 : Int32)), cap, mt, le, en) C E F P Q T G U H B O J V Y Z O9) k n) (g := True ∧ True ∧ True) (by with_unfolding_all rfl) ⟨trivial, trivial, trivial⟩ ?_
        by_cases c9 : p3 < 0
        · rw [if_pos c9] at h
          refine am_ev_pos c9 ?_
          cases h
          exact am_ev_vret 0 0 0 rfl rfl rfl
        · rw [if_neg c9] at h
          refine am_ev_neg c9 ?_
          refine am_ev_st 3 (f' := am_br ((Int32.ofNat cap) ≤ p3) 128 67 [(5, .int (Int32.ofNat cap)), (0, .ref 1), (1, .int p1), (2, .int p2), (3, .int p3), (4, .int p4)] [] (W9 ((upd nK (p1).toNatClampNeg p2), (upd nL (p1).toNatClampNeg p3), (upd nR (p1).toNatClampNeg p4), (upd nS (p1).toNatClampNeg (1 : Int32)), (upd nD (p1).toNatClampNeg (1 : Int32)), cap, mt, le, en) C E F P Q T G U H B O J V Y Z O9) k n) (g := True ∧ True ∧ True ∧ True) (by with_unfolding_all rfl) ⟨trivial, trivial, trivial, trivial⟩ ?_
          by_cases c10 : (Int32.ofNat cap) ≤ p3
          · rw [if_pos c10] at h
            refine am_ev_pos c10 ?_
            cases h
            exact am_ev_vret 0 0 0 rfl rfl rfl
          · rw [if_neg c10] at h
            refine am_ev_neg c10 ?_
            refine am_ev_st 2 (f' := am_br (p4 < 0) 128 72 [(5, .int (Int32.ofNat cap)), (0, .ref 1), (1, .int p1), (2, .int p2), (3, .int p3), (4, .int p4)] [] (W9 ((upd nK (p1).toNatClampNeg p2), (upd nL (p1).toNatClampNeg p3), (upd nR (p1).toNatClampNeg p4), (upd nS (p1).toNatClampNeg (1 : Int32)), (upd nD (p1).toNatClampNeg (1 : Int32)), cap, mt, le, en) C E F P Q T G U H B O J V Y Z O9) k n) (g := True ∧ True ∧ True) (by with_unfolding_all rfl) ⟨trivial, trivial, trivial⟩ ?_
            by_cases c11 : p4 < 0
            · rw [if_pos c11] at h
              refine am_ev_pos c11 ?_
              cases h
              exact am_ev_vret 0 0 0 rfl rfl rfl
            · rw [if_neg c11] at h
              refine am_ev_neg c11 ?_
              refine am_ev_st 3 (f' := am_br ((Int32.ofNat cap) ≤ p4) 128 79 [(5, .int (Int32.ofNat cap)), (0, .ref 1), (1, .int p1), (2, .int p2), (3, .int p3), (4, .int p4)] [] (W9 ((upd nK (p1).toNatClampNeg p2), (upd nL (p1).toNatClampNeg p3), (upd nR (p1).toNatClampNeg p4), (upd nS (p1).toNatClampNeg (1 : Int32)), (upd nD (p1).toNatClampNeg (1 : Int32)), cap, mt, le, en) C E F P Q T G U H B O J V Y Z O9) k n) (g := True ∧ True ∧ True ∧ True) (by with_unfolding_all rfl) ⟨trivial, trivial, trivial, trivial⟩ ?_
              by_cases c12 : (Int32.ofNat cap) ≤ p4
              · rw [if_pos c12] at h
                refine am_ev_pos c12 ?_
                cases h
                exact am_ev_vret 0 0 0 rfl rfl rfl
              · rw [if_neg c12] at h
                refine am_ev_neg c12 ?_
                by_cases g13 : (p3 < 0 ∨ cap ≤ (p3).toNatClampNeg)
                · rw [if_pos g13] at h; cases h
                rw [if_neg g13] at h
                by_cases g14 : (p4 < 0 ∨ cap ≤ (p4).toNatClampNeg)
                · rw [if_pos g14] at h; cases h
                rw [if_neg g14] at h
                by_cases g15 : (p1 < 0 ∨ cap ≤ (p1).toNatClampNeg)
                · rw [if_pos g15] at h; cases h
                rw [if_neg g15] at h
                by_cases g16 : (p3 < 0 ∨ cap ≤ (p3).toNatClampNeg)
                · rw [if_pos g16] at h; cases h
                rw [if_neg g16] at h
                by_cases g17 : (p4 < 0 ∨ cap ≤ (p4).toNatClampNeg)
                · rw [if_pos g17] at h; cases h
                rw [if_neg g17] at h
                by_cases g18 : (p1 < 0 ∨ cap ≤ (p1).toNatClampNeg)
                · rw [if_pos g18] at h; cases h
                rw [if_neg g18] at h
                refine am_ev_st 30 (f' := (128, [(5, .int (Int32.ofNat cap)), (0, .ref 1), (1, .int p1), (2, .int p2), (3, .int p3), (4, .int p4)], [], (W9 ((upd nK (p1).toNatClampNeg p2), (upd nL (p1).toNatClampNeg p3), (upd nR (p1).toNatClampNeg p4), (upd (upd nS (p1).toNatClampNeg (1 : Int32)) (p1).toNatClampNeg (((1 : Int32) + (((upd nS (p1).toNatClampNeg (1 : Int32))) (p3).toNatClampNeg)) + (((upd nS (p1).toNatClampNeg (1 : Int32))) (p4).toNatClampNeg))), (upd (upd nD (p1).toNatClampNeg (1 : Int32)) (p1).toNatClampNeg ((1 : Int32) + (if (((upd nD (p1).toNatClampNeg (1 : Int32))) (p3).toNatClampNeg) < (((upd nD (p1).toNatClampNeg (1 : Int32))) (p4).toNatClampNeg) then (((upd nD (p1).toNatClampNeg (1 : Int32))) (p4).toNatClampNeg) else (((upd nD (p1).toNatClampNeg (1 : Int32))) (p3).toNatClampNeg)))), cap, mt, le, en) C E F P Q T G U H B O J V Y Z O9), k, n)) (g := True ∧ True ∧ True ∧ True ∧ True ∧ True ∧ True ∧ vp_in (p3) cap ∧ True ∧ True ∧ True ∧ True ∧ vp_in (p4) cap ∧ True ∧ vp_in (p1) cap ∧ True ∧ True ∧ True ∧ True ∧ True ∧ True ∧ True ∧ vp_in (p3) cap ∧ True ∧ True ∧ True ∧ vp_in (p4) cap ∧ True ∧ True ∧ vp_in (p1) cap ∧ True) (by with_unfolding_all rfl) ⟨trivial, trivial, trivial, trivial, trivial, trivial, trivial, g13, trivial, trivial, trivial, trivial, g14, trivial, g15, trivial, trivial, trivial, trivial, trivial, trivial, trivial, g16, trivial, trivial, trivial, g17, trivial, trivial, g18, trivial⟩ ?_
                cases h
                exact am_ev_vret 0 0 0 rfl rfl rfl
    · rw [if_neg c2] at h
      refine am_ev_neg c2 ?_
      cases h
      exact am_ev_vret 0 0 0 rfl rfl rfl
