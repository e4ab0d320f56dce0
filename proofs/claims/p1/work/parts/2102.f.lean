def fm_starts (T : cT) (U : cU) (V : cV) (p1 p2 p3 : Int32) : Option (Bool × cU × cV) :=
  (fm_isTerm T p1).bind fun z1 =>
  match z1 with
  | (r1) =>
  if (am_bz r1) = 0 then
  (some (false, ((1 : Int32)), V))
  else
  (fm_isTerm T p2).bind fun z3 =>
  match z3 with
  | (r3) =>
  if (am_bz r3) = 0 then
  (some (false, ((1 : Int32)), V))
  else
  if p3 < 0 then
  (some (false, ((1 : Int32)), V))
  else
  if p3 ≤ (30 : Int32) then
  (match V with
  | (vf, vu, vx) =>
  some (true, ((0 : Int32)), (p3, (0 : Int32), (0 : Int32))))
  else
  some (false, ((1 : Int32)), V)
set_option maxHeartbeats 4000000 in
set_option maxRecDepth 100000 in
theorem ok_fm_starts  {N : cN} {C : cC} {E : cE} {F : cF} {P : cP} {Q : cQ} {T : cT} {G : cG} {U : cU} {H : cH} {B : cB} {O : cO} {J : cJ} {V : cV} {Y : cY} {Z : cZ} {O9 : cO9} {k n : Nat} {p1 p2 p3 : Int32} {rv : Bool} {U' : cU} {V' : cV} (h : fm_starts T U V p1 p2 p3 = some (rv, U', V')) (D : Nat) (hD : 2 ≤ D) : am_Call D 111 [.ref 19, .int p1, .int p2, .int p3] (W9 N C E F P Q T G U H B O J V Y Z O9) k n (.inl (some (.int (am_bz rv))), W9 N C E F P Q T G U' H B O J V' Y Z O9, k, n) := by
  unfold fm_starts at h
  obtain ⟨D, rfl⟩ : ∃ D', D = D' + 1 := ⟨D - 1, by omega⟩
  have hD : 1 ≤ D := by omega
  refine am_call_run (by decide) (by decide) rfl (Nat.le_of_ble_eq_true rfl) (by decide) (L := [(0, .ref 19), (1, .int p1), (2, .int p2), (3, .int p3)]) rfl ?_
  refine am_ev_st 5 (f' := (7, [(0, .ref 19), (1, .int p1), (2, .int p2), (3, .int p3)], [.int p1, .ref 19], (W9 N C E F P Q T G ((0 : Int32)) H B O J V Y Z O9), k, n)) (g := True ∧ True ∧ True ∧ True ∧ True ∧ True) (by with_unfolding_all rfl) ⟨trivial, trivial, trivial, trivial, trivial, trivial⟩ ?_
  replace h := Option.bind_eq_some_iff.mp h
  obtain ⟨r1, hc1, h⟩ := h
  try dsimp only at h
  refine am_ev_call (.invokevirtual 193) 108 2 796 [.ref 19, .int p1] [] rfl rfl rfl rfl (ok_fm_isTerm hc1 D (by omega)) rfl ?_
  refine am_ev_st 1 (f' := am_br ((am_bz r1) = 0) 31 10 [(0, .ref 19), (1, .int p1), (2, .int p2), (3, .int p3)] [] (W9 N C E F P Q T G ((0 : Int32)) H B O J V Y Z O9) k n) (g := True ∧ True) (by with_unfolding_all rfl) ⟨trivial, trivial⟩ ?_
  by_cases c2 : (am_bz r1) = 0
  · rw [if_pos c2] at h
    refine am_ev_pos c2 ?_
    refine am_ev_st 4 (f' := (37, [(0, .ref 19), (1, .int p1), (2, .int p2), (3, .int p3)], [.int (0 : Int32)], (W9 N C E F P Q T G ((1 : Int32)) H B O J V Y Z O9), k, n)) (g := True ∧ True ∧ True ∧ True ∧ True) (by with_unfolding_all rfl) ⟨trivial, trivial, trivial, trivial, trivial⟩ ?_
    cases h
    exact am_ev_ret 0 0 0 rfl .boolean rfl am_n0 rfl
  · rw [if_neg c2] at h
    refine am_ev_neg c2 ?_
    refine am_ev_st 2 (f' := (15, [(0, .ref 19), (1, .int p1), (2, .int p2), (3, .int p3)], [.int p2, .ref 19], (W9 N C E F P Q T G ((0 : Int32)) H B O J V Y Z O9), k, n)) (g := True ∧ True ∧ True) (by with_unfolding_all rfl) ⟨trivial, trivial, trivial⟩ ?_
    replace h := Option.bind_eq_some_iff.mp h
    obtain ⟨r3, hc3, h⟩ := h
    try dsimp only at h
    refine am_ev_call (.invokevirtual 193) 108 2 796 [.ref 19, .int p2] [] rfl rfl rfl rfl (ok_fm_isTerm hc3 D (by omega)) rfl ?_
    refine am_ev_st 1 (f' := am_br ((am_bz r3) = 0) 31 18 [(0, .ref 19), (1, .int p1), (2, .int p2), (3, .int p3)] [] (W9 N C E F P Q T G ((0 : Int32)) H B O J V Y Z O9) k n) (g := True ∧ True) (by with_unfolding_all rfl) ⟨trivial, trivial⟩ ?_
    by_cases c4 : (am_bz r3) = 0
    · rw [if_pos c4] at h
      refine am_ev_pos c4 ?_
      refine am_ev_st 4 (f' := (37, [(0, .ref 19), (1, .int p1), (2, .int p2), (3, .int p3)], [.int (0 : Int32)], (W9 N C E F P Q T G ((1 : Int32)) H B O J V Y Z O9), k, n)) (g := True ∧ True ∧ True ∧ True ∧ True) (by with_unfolding_all rfl) ⟨trivial, trivial, trivial, trivial, trivial⟩ ?_
      cases h
      exact am_ev_ret 0 0 0 rfl .boolean rfl am_n0 rfl
    · rw [if_neg c4] at h
      refine am_ev_neg c4 ?_
      refine am_ev_st 2 (f' := am_br (p3 < 0) 31 22 [(0, .ref 19), (1, .int p1), (2, .int p2), (3, .int p3)] [] (W9 N C E F P Q T G ((0 : Int32)) H B O J V Y Z O9) k n) (g := True ∧ True ∧ True) (by with_unfolding_all rfl) ⟨trivial, trivial, trivial⟩ ?_
      by_cases c5 : p3 < 0
      · rw [if_pos c5] at h
        refine am_ev_pos c5 ?_
        refine am_ev_st 4 (f' := (37, [(0, .ref 19), (1, .int p1), (2, .int p2), (3, .int p3)], [.int (0 : Int32)], (W9 N C E F P Q T G ((1 : Int32)) H B O J V Y Z O9), k, n)) (g := True ∧ True ∧ True ∧ True ∧ True) (by with_unfolding_all rfl) ⟨trivial, trivial, trivial, trivial, trivial⟩ ?_
        cases h
        exact am_ev_ret 0 0 0 rfl .boolean rfl am_n0 rfl
      · rw [if_neg c5] at h
        refine am_ev_neg c5 ?_
        refine am_ev_st 3 (f' := am_br (p3 ≤ (30 : Int32)) 38 28 [(0, .ref 19), (1, .int p1), (2, .int p2), (3, .int p3)] [] (W9 N C E F P Q T G ((0 : Int32)) H B O J V Y Z O9) k n) (g := True ∧ True ∧ True ∧ True) (by with_unfolding_all rfl) ⟨trivial, trivial, trivial, trivial⟩ ?_
        by_cases c6 : p3 ≤ (30 : Int32)
        · rw [if_pos c6] at h
          refine am_ev_pos c6 ?_
          obtain ⟨vf, vu, vx⟩ := V
          try dsimp only at h
          refine am_ev_st 10 (f' := (54, [(0, .ref 19), (1, .int p1), (2, .int p2), (3, .int p3)], [.int (1 : Int32)], (W9 N C E F P Q T G ((0 : Int32)) H B O J (p3, (0 : Int32), (0 : Int32)) Y Z O9), k, n)) (g := True ∧ True ∧ True ∧ True ∧ True ∧ True ∧ True ∧ True ∧ True ∧ True ∧ True) (by with_unfolding_all rfl) ⟨trivial, trivial, trivial, trivial, trivial, trivial, trivial, trivial, trivial, trivial, trivial⟩ ?_
          cases h
          exact am_ev_ret 0 0 0 rfl .boolean rfl am_n1 rfl
        · rw [if_neg c6] at h
          refine am_ev_neg c6 ?_
          refine am_ev_st 4 (f' := (37, [(0, .ref 19), (1, .int p1), (2, .int p2), (3, .int p3)], [.int (0 : Int32)], (W9 N C E F P Q T G ((1 : Int32)) H B O J V Y Z O9), k, n)) (g := True ∧ True ∧ True ∧ True ∧ True) (by with_unfolding_all rfl) ⟨trivial, trivial, trivial, trivial, trivial⟩ ?_
          cases h
          exact am_ev_ret 0 0 0 rfl .boolean rfl am_n0 rfl
def fm_infer (T : cT) (U : cU) (V : cV) (p1 p2 : Int32) : Option (Int32 × cU × cV) :=
  (fm_starts T U V p1 p1 p2).bind fun z1 =>
  match z1 with
  | (r1, U_1, V_1) =>
  if (am_bz r1) ≠ 0 then
  (none)
  else
  some ((0 : Int32), U_1, V_1)
set_option maxHeartbeats 4000000 in
set_option maxRecDepth 100000 in
theorem ok_fm_infer  {N : cN} {C : cC} {E : cE} {F : cF} {P : cP} {Q : cQ} {T : cT} {G : cG} {U : cU} {H : cH} {B : cB} {O : cO} {J : cJ} {V : cV} {Y : cY} {Z : cZ} {O9 : cO9} {k n : Nat} {p1 p2 : Int32} {rv : Int32} {U' : cU} {V' : cV} (h : fm_infer T U V p1 p2 = some (rv, U', V')) (D : Nat) (hD : 3 ≤ D) : am_Call D 113 [.ref 19, .int p1, .int p2] (W9 N C E F P Q T G U H B O J V Y Z O9) k n (.inl (some (.int rv)), W9 N C E F P Q T G U' H B O J V' Y Z O9, k, n) := by
  unfold fm_infer at h
  obtain ⟨D, rfl⟩ : ∃ D', D = D' + 1 := ⟨D - 1, by omega⟩
  have hD : 2 ≤ D := by omega
  refine am_call_run (by decide) (by decide) rfl (Nat.le_of_ble_eq_true rfl) (by decide) (L := [(0, .ref 19), (1, .int p1), (2, .int p2)]) rfl ?_
  refine am_ev_st 4 (f' := (4, [(0, .ref 19), (1, .int p1), (2, .int p2)], [.int p2, .int p1, .int p1, .ref 19], (W9 N C E F P Q T G U H B O J V Y Z O9), k, n)) (g := True ∧ True ∧ True ∧ True ∧ True) (by with_unfolding_all rfl) ⟨trivial, trivial, trivial, trivial, trivial⟩ ?_
  replace h := Option.bind_eq_some_iff.mp h
  obtain ⟨⟨r1, U_1, V_1⟩, hc1, h⟩ := h
  try dsimp only at h
  refine am_ev_call (.invokevirtual 199) 111 6 804 [.ref 19, .int p1, .int p1, .int p2] [] rfl rfl rfl rfl (ok_fm_starts hc1 D (by omega)) rfl ?_
  refine am_ev_st 1 (f' := am_br ((am_bz r1) ≠ 0) 12 7 [(0, .ref 19), (1, .int p1), (2, .int p2)] [] (W9 N C E F P Q T G U_1 H B O J V_1 Y Z O9) k n) (g := True ∧ True) (by with_unfolding_all rfl) ⟨trivial, trivial⟩ ?_
  by_cases c2 : (am_bz r1) ≠ 0
  · rw [if_pos c2] at h
    refine am_ev_pos c2 ?_
    cases h
  · rw [if_neg c2] at h
    refine am_ev_neg c2 ?_
    refine am_ev_st 1 (f' := (11, [(0, .ref 19), (1, .int p1), (2, .int p2)], [.int (0 : Int32)], (W9 N C E F P Q T G U_1 H B O J V_1 Y Z O9), k, n)) (g := True ∧ True) (by with_unfolding_all rfl) ⟨trivial, trivial⟩ ?_
    cases h
    exact am_ev_ret 0 0 0 rfl .int rfl rfl rfl
def fm_reduce (T : cT) (U : cU) (V : cV) (p1 p2 : Int32) : Option (Int32 × cU × cV) :=
  (fm_starts T U V p1 p1 p2).bind fun z1 =>
  match z1 with
  | (r1, U_1, V_1) =>
  if (am_bz r1) ≠ 0 then
  (none)
  else
  some ((0 : Int32), U_1, V_1)
set_option maxHeartbeats 4000000 in
set_option maxRecDepth 100000 in
theorem ok_fm_reduce  {N : cN} {C : cC} {E : cE} {F : cF} {P : cP} {Q : cQ} {T : cT} {G : cG} {U : cU} {H : cH} {B : cB} {O : cO} {J : cJ} {V : cV} {Y : cY} {Z : cZ} {O9 : cO9} {k n : Nat} {p1 p2 : Int32} {rv : Int32} {U' : cU} {V' : cV} (h : fm_reduce T U V p1 p2 = some (rv, U', V')) (D : Nat) (hD : 3 ≤ D) : am_Call D 114 [.ref 19, .int p1, .int p2] (W9 N C E F P Q T G U H B O J V Y Z O9) k n (.inl (some (.int rv)), W9 N C E F P Q T G U' H B O J V' Y Z O9, k, n) := by
  unfold fm_reduce at h
  obtain ⟨D, rfl⟩ : ∃ D', D = D' + 1 := ⟨D - 1, by omega⟩
  have hD : 2 ≤ D := by omega
  refine am_call_run (by decide) (by decide) rfl (Nat.le_of_ble_eq_true rfl) (by decide) (L := [(0, .ref 19), (1, .int p1), (2, .int p2)]) rfl ?_
  refine am_ev_st 4 (f' := (4, [(0, .ref 19), (1, .int p1), (2, .int p2)], [.int p2, .int p1, .int p1, .ref 19], (W9 N C E F P Q T G U H B O J V Y Z O9), k, n)) (g := True ∧ True ∧ True ∧ True ∧ True) (by with_unfolding_all rfl) ⟨trivial, trivial, trivial, trivial, trivial⟩ ?_
  replace h := Option.bind_eq_some_iff.mp h
  obtain ⟨⟨r1, U_1, V_1⟩, hc1, h⟩ := h
  try dsimp only at h
  refine am_ev_call (.invokevirtual 199) 111 6 804 [.ref 19, .int p1, .int p1, .int p2] [] rfl rfl rfl rfl (ok_fm_starts hc1 D (by omega)) rfl ?_
  refine am_ev_st 1 (f' := am_br ((am_bz r1) ≠ 0) 12 7 [(0, .ref 19), (1, .int p1), (2, .int p2)] [] (W9 N C E F P Q T G U_1 H B O J V_1 Y Z O9) k n) (g := True ∧ True) (by with_unfolding_all rfl) ⟨trivial, trivial⟩ ?_
  by_cases c2 : (am_bz r1) ≠ 0
  · rw [if_pos c2] at h
    refine am_ev_pos c2 ?_
    cases h
  · rw [if_neg c2] at h
    refine am_ev_neg c2 ?_
    refine am_ev_st 1 (f' := (11, [(0, .ref 19), (1, .int p1), (2, .int p2)], [.int (0 : Int32)], (W9 N C E F P Q T G U_1 H B O J V_1 Y Z O9), k, n)) (g := True ∧ True) (by with_unfolding_all rfl) ⟨trivial, trivial⟩ ?_
    cases h
    exact am_ev_ret 0 0 0 rfl .int rfl rfl rfl
def fm_same (T : cT) (U : cU) (V : cV) (p1 p2 p3 : Int32) : Option (Bool × cU × cV) :=
  (fm_starts T U V p1 p2 p3).bind fun z1 =>
  match z1 with
  | (r1, U_1, V_1) =>
  if (am_bz r1) ≠ 0 then
  (none)
  else
  some (false, U_1, V_1)
set_option maxHeartbeats 4000000 in
set_option maxRecDepth 100000 in
theorem ok_fm_same  {N : cN} {C : cC} {E : cE} {F : cF} {P : cP} {Q : cQ} {T : cT} {G : cG} {U : cU} {H : cH} {B : cB} {O : cO} {J : cJ} {V : cV} {Y : cY} {Z : cZ} {O9 : cO9} {k n : Nat} {p1 p2 p3 : Int32} {rv : Bool} {U' : cU} {V' : cV} (h : fm_same T U V p1 p2 p3 = some (rv, U', V')) (D : Nat) (hD : 3 ≤ D) : am_Call D 115 [.ref 19, .int p1, .int p2, .int p3] (W9 N C E F P Q T G U H B O J V Y Z O9) k n (.inl (some (.int (am_bz rv))), W9 N C E F P Q T G U' H B O J V' Y Z O9, k, n) := by
  unfold fm_same at h
  obtain ⟨D, rfl⟩ : ∃ D', D = D' + 1 := ⟨D - 1, by omega⟩
  have hD : 2 ≤ D := by omega
  refine am_call_run (by decide) (by decide) rfl (Nat.le_of_ble_eq_true rfl) (by decide) (L := [(0, .ref 19), (1, .int p1), (2, .int p2), (3, .int p3)]) rfl ?_
  refine am_ev_st 4 (f' := (4, [(0, .ref 19), (1, .int p1), (2, .int p2), (3, .int p3)], [.int p3, .int p2, .int p1, .ref 19], (W9 N C E F P Q T G U H B O J V Y Z O9), k, n)) (g := True ∧ True ∧ True ∧ True ∧ True) (by with_unfolding_all rfl) ⟨trivial, trivial, trivial, trivial, trivial⟩ ?_
  replace h := Option.bind_eq_some_iff.mp h
  obtain ⟨⟨r1, U_1, V_1⟩, hc1, h⟩ := h
  try dsimp only at h
  refine am_ev_call (.invokevirtual 199) 111 6 804 [.ref 19, .int p1, .int p2, .int p3] [] rfl rfl rfl rfl (ok_fm_starts hc1 D (by omega)) rfl ?_
  refine am_ev_st 1 (f' := am_br ((am_bz r1) ≠ 0) 12 7 [(0, .ref 19), (1, .int p1), (2, .int p2), (3, .int p3)] [] (W9 N C E F P Q T G U_1 H B O J V_1 Y Z O9) k n) (g := True ∧ True) (by with_unfolding_all rfl) ⟨trivial, trivial⟩ ?_
  by_cases c2 : (am_bz r1) ≠ 0
  · rw [if_pos c2] at h
    refine am_ev_pos c2 ?_
    cases h
  · rw [if_neg c2] at h
    refine am_ev_neg c2 ?_
    refine am_ev_st 1 (f' := (11, [(0, .ref 19), (1, .int p1), (2, .int p2), (3, .int p3)], [.int (0 : Int32)], (W9 N C E F P Q T G U_1 H B O J V_1 Y Z O9), k, n)) (g := True ∧ True) (by with_unfolding_all rfl) ⟨trivial, trivial⟩ ?_
    cases h
    exact am_ev_ret 0 0 0 rfl .boolean rfl am_n0 rfl
def fm_check (T : cT) (U : cU) (V : cV) (p1 p2 p3 : Int32) : Option (Bool × cU × cV) :=
  (fm_starts T U V p1 p2 p3).bind fun z1 =>
  match z1 with
  | (r1, U_1, V_1) =>
  if (am_bz r1) ≠ 0 then
  (none)
  else
  some (false, U_1, V_1)
set_option maxHeartbeats 4000000 in
set_option maxRecDepth 100000 in
theorem ok_fm_check  {N : cN} {C : cC} {E : cE} {F : cF} {P : cP} {Q : cQ} {T : cT} {G : cG} {U : cU} {H : cH} {B : cB} {O : cO} {J : cJ} {V : cV} {Y : cY} {Z : cZ} {O9 : cO9} {k n : Nat} {p1 p2 p3 : Int32} {rv : Bool} {U' : cU} {V' : cV} (h : fm_check T U V p1 p2 p3 = some (rv, U', V')) (D : Nat) (hD : 3 ≤ D) : am_Call D 116 [.ref 19, .int p1, .int p2, .int p3] (W9 N C E F P Q T G U H B O J V Y Z O9) k n (.inl (some (.int (am_bz rv))), W9 N C E F P Q T G U' H B O J V' Y Z O9, k, n) := by
  unfold fm_check at h
  obtain ⟨D, rfl⟩ : ∃ D', D = D' + 1 := ⟨D - 1, by omega⟩
  have hD : 2 ≤ D := by omega
  refine am_call_run (by decide) (by decide) rfl (Nat.le_of_ble_eq_true rfl) (by decide) (L := [(0, .ref 19), (1, .int p1), (2, .int p2), (3, .int p3)]) rfl ?_
  refine am_ev_st 4 (f' := (4, [(0, .ref 19), (1, .int p1), (2, .int p2), (3, .int p3)], [.int p3, .int p2, .int p1, .ref 19], (W9 N C E F P Q T G U H B O J V Y Z O9), k, n)) (g := True ∧ True ∧ True ∧ True ∧ True) (by with_unfolding_all rfl) ⟨trivial, trivial, trivial, trivial, trivial⟩ ?_
  replace h := Option.bind_eq_some_iff.mp h
  obtain ⟨⟨r1, U_1, V_1⟩, hc1, h⟩ := h
  try dsimp only at h
  refine am_ev_call (.invokevirtual 199) 111 6 804 [.ref 19, .int p1, .int p2, .int p3] [] rfl rfl rfl rfl (ok_fm_starts hc1 D (by omega)) rfl ?_
  refine am_ev_st 1 (f' := am_br ((am_bz r1) ≠ 0) 12 7 [(0, .ref 19), (1, .int p1), (2, .int p2), (3, .int p3)] [] (W9 N C E F P Q T G U_1 H B O J V_1 Y Z O9) k n) (g := True ∧ True) (by with_unfolding_all rfl) ⟨trivial, trivial⟩ ?_
  by_cases c2 : (am_bz r1) ≠ 0
  · rw [if_pos c2] at h
    refine am_ev_pos c2 ?_
    cases h
  · rw [if_neg c2] at h
    refine am_ev_neg c2 ?_
    refine am_ev_st 1 (f' := (11, [(0, .ref 19), (1, .int p1), (2, .int p2), (3, .int p3)], [.int (0 : Int32)], (W9 N C E F P Q T G U_1 H B O J V_1 Y Z O9), k, n)) (g := True ∧ True) (by with_unfolding_all rfl) ⟨trivial, trivial⟩ ?_
    cases h
    exact am_ev_ret 0 0 0 rfl .boolean rfl am_n0 rfl
def fm_declare (T : cT) (G : cG) (U : cU) (V : cV) (p1 p2 : Int32) : Option (Int32 × cU × cV) :=
  match G with
  | (gc, gb) =>
  if gc ≠ (16 : Int32) then
  ((fm_starts T ((0 : Int32)) V p1 p1 p2).bind fun z2 =>
  match z2 with
  | (r2, U_2, V_2) =>
  if (am_bz r2) ≠ 0 then
  (none)
  else
  some ((0 : Int32), U_2, V_2))
  else
  some ((-1 : Int32), ((0 : Int32)), V)
set_option maxHeartbeats 4000000 in
set_option maxRecDepth 100000 in
theorem ok_fm_declare  {N : cN} {C : cC} {E : cE} {F : cF} {P : cP} {Q : cQ} {T : cT} {G : cG} {U : cU} {H : cH} {B : cB} {O : cO} {J : cJ} {V : cV} {Y : cY} {Z : cZ} {O9 : cO9} {k n : Nat} {p1 p2 : Int32} {rv : Int32} {U' : cU} {V' : cV} (h : fm_declare T G U V p1 p2 = some (rv, U', V')) (D : Nat) (hD : 3 ≤ D) : am_Call D 117 [.ref 19, .int p1, .int p2] (W9 N C E F P Q T G U H B O J V Y Z O9) k n (.inl (some (.int rv)), W9 N C E F P Q T G U' H B O J V' Y Z O9, k, n) := by
  unfold fm_declare at h
  obtain ⟨D, rfl⟩ : ∃ D', D = D' + 1 := ⟨D - 1, by omega⟩
  have hD : 2 ≤ D := by omega
  refine am_call_run (by decide) (by decide) rfl (Nat.le_of_ble_eq_true rfl) (by decide) (L := [(0, .ref 19), (1, .int p1), (2, .int p2)]) rfl ?_
  obtain ⟨gc, gb⟩ := G
  try dsimp only at h
  refine am_ev_st 7 (f' := am_br (gc ≠ (16 : Int32)) 16 11 [(0, .ref 19), (1, .int p1), (2, .int p2)] [] (W9 N C E F P Q T (gc, gb) ((0 : Int32)) H B O J V Y Z O9) k n) (g := True ∧ True ∧ True ∧ True ∧ True ∧ True ∧ True ∧ True) (by with_unfolding_all rfl) ⟨trivial, trivial, trivial, trivial, trivial, trivial, trivial, trivial⟩ ?_
  by_cases c1 : gc ≠ (16 : Int32)
  · rw [if_pos c1] at h
    refine am_ev_pos c1 ?_
    refine am_ev_st 4 (f' := (20, [(0, .ref 19), (1, .int p1), (2, .int p2)], [.int p2, .int p1, .int p1, .ref 19], (W9 N C E F P Q T (gc, gb) ((0 : Int32)) H B O J V Y Z O9), k, n)) (g := True ∧ True ∧ True ∧ True ∧ True) (by with_unfolding_all rfl) ⟨trivial, trivial, trivial, trivial, trivial⟩ ?_
    replace h := Option.bind_eq_some_iff.mp h
    obtain ⟨⟨r2, U_2, V_2⟩, hc2, h⟩ := h
    try dsimp only at h
    refine am_ev_call (.invokevirtual 199) 111 6 804 [.ref 19, .int p1, .int p1, .int p2] [] rfl rfl rfl rfl (ok_fm_starts hc2 D (by omega)) rfl ?_
    refine am_ev_st 1 (f' := am_br ((am_bz r2) ≠ 0) 28 23 [(0, .ref 19), (1, .int p1), (2, .int p2)] [] (W9 N C E F P Q T (gc, gb) U_2 H B O J V_2 Y Z O9) k n) (g := True ∧ True) (by with_unfolding_all rfl) ⟨trivial, trivial⟩ ?_
    by_cases c3 : (am_bz r2) ≠ 0
    · rw [if_pos c3] at h
      refine am_ev_pos c3 ?_
      cases h
    · rw [if_neg c3] at h
      refine am_ev_neg c3 ?_
      refine am_ev_st 1 (f' := (27, [(0, .ref 19), (1, .int p1), (2, .int p2)], [.int (0 : Int32)], (W9 N C E F P Q T (gc, gb) U_2 H B O J V_2 Y Z O9), k, n)) (g := True ∧ True) (by with_unfolding_all rfl) ⟨trivial, trivial⟩ ?_
      cases h
      exact am_ev_ret 0 0 0 rfl .int rfl rfl rfl
  · rw [if_neg c1] at h
    refine am_ev_neg c1 ?_
    refine am_ev_st 1 (f' := (15, [(0, .ref 19), (1, .int p1), (2, .int p2)], [.int (-1 : Int32)], (W9 N C E F P Q T (gc, gb) ((0 : Int32)) H B O J V Y Z O9), k, n)) (g := True ∧ True) (by with_unfolding_all rfl) ⟨trivial, trivial⟩ ?_
    cases h
    exact am_ev_ret 0 0 0 rfl .int rfl rfl rfl
def fm_define (fl : Nat) (T : cT) (G : cG) (U : cU) (V : cV) (p1 p2 : Int32) : Option (Int32 × cU × cV) :=
  match G with
  | (gc, gb) =>
  if gc ≠ (16 : Int32) then
  ((fm_starts T ((0 : Int32)) V p1 p1 p2).bind fun z2 =>
  match z2 with
  | (r2, U_2, V_2) =>
  if (am_bz r2) ≠ 0 then
  (none)
  else
  some ((0 : Int32), U_2, V_2))
  else
  some ((-1 : Int32), ((0 : Int32)), V)
set_option maxHeartbeats 4000000 in
set_option maxRecDepth 100000 in
theorem ok_fm_define {fl : Nat} {N : cN} {C : cC} {E : cE} {F : cF} {P : cP} {Q : cQ} {T : cT} {G : cG} {U : cU} {H : cH} {B : cB} {O : cO} {J : cJ} {V : cV} {Y : cY} {Z : cZ} {O9 : cO9} {k n : Nat} {p1 p2 : Int32} {rv : Int32} {U' : cU} {V' : cV} (h : fm_define fl T G U V p1 p2 = some (rv, U', V')) (D : Nat) (hD : 3 ≤ D) : am_Call D 118 [.ref 19, .int p1, .int p2] (W9 N C E F P Q T G U H B O J V Y Z O9) k n (.inl (some (.int rv)), W9 N C E F P Q T G U' H B O J V' Y Z O9, k, n) := by
  unfold fm_define at h
  obtain ⟨D, rfl⟩ : ∃ D', D = D' + 1 := ⟨D - 1, by omega⟩
  have hD : 2 ≤ D := by omega
  refine am_call_run (by decide) (by decide) rfl (Nat.le_of_ble_eq_true rfl) (by decide) (L := [(0, .ref 19), (1, .int p1), (2, .int p2)]) rfl ?_
  obtain ⟨gc, gb⟩ := G
  try dsimp only at h
  refine am_ev_st 7 (f' := am_br (gc ≠ (16 : Int32)) 16 11 [(0, .ref 19), (1, .int p1), (2, .int p2)] [] (W9 N C E F P Q T (gc, gb) ((0 : Int32)) H B O J V Y Z O9) k n) (g := True ∧ True ∧ True ∧ True ∧ True ∧ True ∧ True ∧ True) (by with_unfolding_all rfl) ⟨trivial, trivial, trivial, trivial, trivial, trivial, trivial, trivial⟩ ?_
  by_cases c1 : gc ≠ (16 : Int32)
  · rw [if_pos c1] at h
    refine am_ev_pos c1 ?_
    refine am_ev_st 4 (f' := (20, [(0, .ref 19), (1, .int p1), (2, .int p2)], [.int p2, .int p1, .int p1, .ref 19], (W9 N C E F P Q T (gc, gb) ((0 : Int32)) H B O J V Y Z O9), k, n)) (g := True ∧ True ∧ True ∧ True ∧ True) (by with_unfolding_all rfl) ⟨trivial, trivial, trivial, trivial, trivial⟩ ?_
    replace h := Option.bind_eq_some_iff.mp h
    obtain ⟨⟨r2, U_2, V_2⟩, hc2, h⟩ := h
    try dsimp only at h
    refine am_ev_call (.invokevirtual 199) 111 6 804 [.ref 19, .int p1, .int p1, .int p2] [] rfl rfl rfl rfl (ok_fm_starts hc2 D (by omega)) rfl ?_
    refine am_ev_st 1 (f' := am_br ((am_bz r2) ≠ 0) 28 23 [(0, .ref 19), (1, .int p1), (2, .int p2)] [] (W9 N C E F P Q T (gc, gb) U_2 H B O J V_2 Y Z O9) k n) (g := True ∧ True) (by with_unfolding_all rfl) ⟨trivial, trivial⟩ ?_
    by_cases c3 : (am_bz r2) ≠ 0
    · rw [if_pos c3] at h
      refine am_ev_pos c3 ?_
      cases h
    · rw [if_neg c3] at h
      refine am_ev_neg c3 ?_
      refine am_ev_st 1 (f' := (27, [(0, .ref 19), (1, .int p1), (2, .int p2)], [.int (0 : Int32)], (W9 N C E F P Q T (gc, gb) U_2 H B O J V_2 Y Z O9), k, n)) (g := True ∧ True) (by with_unfolding_all rfl) ⟨trivial, trivial⟩ ?_
      cases h
      exact am_ev_ret 0 0 0 rfl .int rfl rfl rfl
  · rw [if_neg c1] at h
    refine am_ev_neg c1 ?_
    refine am_ev_st 1 (f' := (15, [(0, .ref 19), (1, .int p1), (2, .int p2)], [.int (-1 : Int32)], (W9 N C E F P Q T (gc, gb) ((0 : Int32)) H B O J V Y Z O9), k, n)) (g := True ∧ True) (by with_unfolding_all rfl) ⟨trivial, trivial⟩ ?_
    cases h
    exact am_ev_ret 0 0 0 rfl .int rfl rfl rfl
def fm_constants (G : cG) (U : cU) : Option (Int32 × cU) :=
  match G with
  | (gc, gb) =>
  some (gc, ((0 : Int32)))
set_option maxHeartbeats 4000000 in
set_option maxRecDepth 100000 in
theorem ok_fm_constants  {N : cN} {C : cC} {E : cE} {F : cF} {P : cP} {Q : cQ} {T : cT} {G : cG} {U : cU} {H : cH} {B : cB} {O : cO} {J : cJ} {V : cV} {Y : cY} {Z : cZ} {O9 : cO9} {k n : Nat} {rv : Int32} {U' : cU} (h : fm_constants G U = some (rv, U')) (D : Nat) (hD : 1 ≤ D) : am_Call D 119 [.ref 19] (W9 N C E F P Q T G U H B O J V Y Z O9) k n (.inl (some (.int rv)), W9 N C E F P Q T G U' H B O J V Y Z O9, k, n) := by
  unfold fm_constants at h
  obtain ⟨D, rfl⟩ : ∃ D', D = D' + 1 := ⟨D - 1, by omega⟩
  have hD : 0 ≤ D := by omega
  refine am_call_run (by decide) (by decide) rfl (Nat.le_of_ble_eq_true rfl) (by decide) (L := [(0, .ref 19)]) rfl ?_
  obtain ⟨gc, gb⟩ := G
  try dsimp only at h
  refine am_ev_st 5 (f' := (9, [(0, .ref 19)], [.int gc], (W9 N C E F P Q T (gc, gb) ((0 : Int32)) H B O J V Y Z O9), k, n)) (g := True ∧ True ∧ True ∧ True ∧ True ∧ True) (by with_unfolding_all rfl) ⟨trivial, trivial, trivial, trivial, trivial, trivial⟩ ?_
  cases h
  exact am_ev_ret 0 0 0 rfl .int rfl rfl rfl
def fm_hasBody (G : cG) (U : cU) (p1 : Int32) : Option (Bool × cU) :=
  if p1 < 0 then
  (some (false, ((0 : Int32))))
  else
  match G with
  | (gc, gb) =>
  if gc ≤ p1 then
  (some (false, ((0 : Int32))))
  else
  if (p1 < 0 ∨ 16 ≤ (p1).toNatClampNeg) then none else
  if (gb (p1).toNatClampNeg) = 0 then
  (some (false, ((0 : Int32))))
  else
  some (true, ((0 : Int32)))
set_option maxHeartbeats 4000000 in
set_option maxRecDepth 100000 in
theorem ok_fm_hasBody  {N : cN} {C : cC} {E : cE} {F : cF} {P : cP} {Q : cQ} {T : cT} {G : cG} {U : cU} {H : cH} {B : cB} {O : cO} {J : cJ} {V : cV} {Y : cY} {Z : cZ} {O9 : cO9} {k n : Nat} {p1 : Int32} {rv : Bool} {U' : cU} (h : fm_hasBody G U p1 = some (rv, U')) (D : Nat) (hD : 1 ≤ D) : am_Call D 120 [.ref 19, .int p1] (W9 N C E F P Q T G U H B O J V Y Z O9) k n (.inl (some (.int (am_bz rv))), W9 N C E F P Q T G U' H B O J V Y Z O9, k, n) := by
  unfold fm_hasBody at h
  obtain ⟨D, rfl⟩ : ∃ D', D = D' + 1 := ⟨D - 1, by omega⟩
  have hD : 0 ≤ D := by omega
  refine am_call_run (by decide) (by decide) rfl (Nat.le_of_ble_eq_true rfl) (by decide) (L := [(0, .ref 19), (1, .int p1)]) rfl ?_
  refine am_ev_st 5 (f' := am_br (p1 < 0) 30 6 [(0, .ref 19), (1, .int p1)] [] (W9 N C E F P Q T G ((0 : Int32)) H B O J V Y Z O9) k n) (g := True ∧ True ∧ True ∧ True ∧ True ∧ True) (by with_unfolding_all rfl) ⟨trivial, trivial, trivial, trivial, trivial, trivial⟩ ?_
  by_cases c1 : p1 < 0
  · rw [if_pos c1] at h
    refine am_ev_pos c1 ?_
    refine am_ev_st 1 (f' := (31, [(0, .ref 19), (1, .int p1)], [.int (0 : Int32)], (W9 N C E F P Q T G ((0 : Int32)) H B O J V Y Z O9), k, n)) (g := True ∧ True) (by with_unfolding_all rfl) ⟨trivial, trivial⟩ ?_
    cases h
    exact am_ev_ret 0 0 0 rfl .boolean rfl am_n0 rfl
  · rw [if_neg c1] at h
    refine am_ev_neg c1 ?_
    obtain ⟨gc, gb⟩ := G
    try dsimp only at h
    refine am_ev_st 4 (f' := am_br (gc ≤ p1) 30 14 [(0, .ref 19), (1, .int p1)] [] (W9 N C E F P Q T (gc, gb) ((0 : Int32)) H B O J V Y Z O9) k n) (g := True ∧ True ∧ True ∧ True ∧ True) (by with_unfolding_all rfl) ⟨trivial, trivial, trivial, trivial, trivial⟩ ?_
    by_cases c2 : gc ≤ p1
    · rw [if_pos c2] at h
      refine am_ev_pos c2 ?_
      refine am_ev_st 1 (f' := (31, [(0, .ref 19), (1, .int p1)], [.int (0 : Int32)], (W9 N C E F P Q T (gc, gb) ((0 : Int32)) H B O J V Y Z O9), k, n)) (g := True ∧ True) (by with_unfolding_all rfl) ⟨trivial, trivial⟩ ?_
      cases h
      exact am_ev_ret 0 0 0 rfl .boolean rfl am_n0 rfl
    · rw [if_neg c2] at h
      refine am_ev_neg c2 ?_
      by_cases g3 : (p1 < 0 ∨ 16 ≤ (p1).toNatClampNeg)
      · rw [if_pos g3] at h; cases h
      rw [if_neg g3] at h
      refine am_ev_st 5 (f' := am_br ((gb (p1).toNatClampNeg) = 0) 30 23 [(0, .ref 19), (1, .int p1)] [] (W9 N C E F P Q T (gc, gb) ((0 : Int32)) H B O J V Y Z O9) k n) (g := True ∧ True ∧ True ∧ vp_in (p1) 16 ∧ True ∧ True) (by with_unfolding_all rfl) ⟨trivial, trivial, trivial, g3, trivial, trivial⟩ ?_
      by_cases c4 : (gb (p1).toNatClampNeg) = 0
      · rw [if_pos c4] at h
        refine am_ev_pos c4 ?_
        refine am_ev_st 1 (f' := (31, [(0, .ref 19), (1, .int p1)], [.int (0 : Int32)], (W9 N C E F P Q T (gc, gb) ((0 : Int32)) H B O J V Y Z O9), k, n)) (g := True ∧ True) (by with_unfolding_all rfl) ⟨trivial, trivial⟩ ?_
        cases h
        exact am_ev_ret 0 0 0 rfl .boolean rfl am_n0 rfl
      · rw [if_neg c4] at h
        refine am_ev_neg c4 ?_
        refine am_ev_st 2 (f' := (31, [(0, .ref 19), (1, .int p1)], [.int (1 : Int32)], (W9 N C E F P Q T (gc, gb) ((0 : Int32)) H B O J V Y Z O9), k, n)) (g := True ∧ True ∧ True) (by with_unfolding_all rfl) ⟨trivial, trivial, trivial⟩ ?_
        cases h
        exact am_ev_ret 0 0 0 rfl .boolean rfl am_n1 rfl
def fm_typeOf (G : cG) (U : cU) (p1 : Int32) : Option (Int32 × cU) :=
  if p1 < 0 then
  (some ((-1 : Int32), ((0 : Int32))))
  else
  match G with
  | (gc, gb) =>
  if p1 < gc then
  (none)
  else
  some ((-1 : Int32), ((0 : Int32)))
set_option maxHeartbeats 4000000 in
set_option maxRecDepth 100000 in
theorem ok_fm_typeOf  {N : cN} {C : cC} {E : cE} {F : cF} {P : cP} {Q : cQ} {T : cT} {G : cG} {U : cU} {H : cH} {B : cB} {O : cO} {J : cJ} {V : cV} {Y : cY} {Z : cZ} {O9 : cO9} {k n : Nat} {p1 : Int32} {rv : Int32} {U' : cU} (h : fm_typeOf G U p1 = some (rv, U')) (D : Nat) (hD : 1 ≤ D) : am_Call D 121 [.ref 19, .int p1] (W9 N C E F P Q T G U H B O J V Y Z O9) k n (.inl (some (.int rv)), W9 N C E F P Q T G U' H B O J V Y Z O9, k, n) := by
  unfold fm_typeOf at h
  obtain ⟨D, rfl⟩ : ∃ D', D = D' + 1 := ⟨D - 1, by omega⟩
  have hD : 0 ≤ D := by omega
  refine am_call_run (by decide) (by decide) rfl (Nat.le_of_ble_eq_true rfl) (by decide) (L := [(0, .ref 19), (1, .int p1)]) rfl ?_
  refine am_ev_st 5 (f' := am_br (p1 < 0) 17 6 [(0, .ref 19), (1, .int p1)] [] (W9 N C E F P Q T G ((0 : Int32)) H B O J V Y Z O9) k n) (g := True ∧ True ∧ True ∧ True ∧ True ∧ True) (by with_unfolding_all rfl) ⟨trivial, trivial, trivial, trivial, trivial, trivial⟩ ?_
  by_cases c1 : p1 < 0
  · rw [if_pos c1] at h
    refine am_ev_pos c1 ?_
    refine am_ev_st 2 (f' := (29, [(0, .ref 19), (1, .int p1)], [.int (-1 : Int32)], (W9 N C E F P Q T G ((0 : Int32)) H B O J V Y Z O9), k, n)) (g := True ∧ True ∧ True) (by with_unfolding_all rfl) ⟨trivial, trivial, trivial⟩ ?_
    cases h
    exact am_ev_ret 0 0 0 rfl .int rfl rfl rfl
  · rw [if_neg c1] at h
    refine am_ev_neg c1 ?_
    obtain ⟨gc, gb⟩ := G
    try dsimp only at h
    refine am_ev_st 4 (f' := am_br (p1 < gc) 21 14 [(0, .ref 19), (1, .int p1)] [] (W9 N C E F P Q T (gc, gb) ((0 : Int32)) H B O J V Y Z O9) k n) (g := True ∧ True ∧ True ∧ True ∧ True) (by with_unfolding_all rfl) ⟨trivial, trivial, trivial, trivial, trivial⟩ ?_
    by_cases c2 : p1 < gc
    · rw [if_pos c2] at h
      refine am_ev_pos c2 ?_
      cases h
    · rw [if_neg c2] at h
      refine am_ev_neg c2 ?_
      refine am_ev_st 2 (f' := (29, [(0, .ref 19), (1, .int p1)], [.int (-1 : Int32)], (W9 N C E F P Q T (gc, gb) ((0 : Int32)) H B O J V Y Z O9), k, n)) (g := True ∧ True ∧ True) (by with_unfolding_all rfl) ⟨trivial, trivial, trivial⟩ ?_
      cases h
      exact am_ev_ret 0 0 0 rfl .int rfl rfl rfl
def fm_mark (U : cU) (H : cH) (B : cB) (p1 : Int32) : Option (Int32 × cU) :=
  if H = 0 then
  (some ((-1 : Int32), ((0 : Int32))))
  else
  if p1 < 0 then
  (some ((-1 : Int32), ((0 : Int32))))
  else
  match B with
  | (br, bl) =>
  if ((2 : Int32) < 0 ∨ 96 ≤ ((2 : Int32)).toNatClampNeg) then none else
  if p1 < (bl ((2 : Int32)).toNatClampNeg) then
  (none)
  else
  some ((-1 : Int32), ((0 : Int32)))
set_option maxHeartbeats 4000000 in
set_option maxRecDepth 100000 in
theorem ok_fm_mark  {N : cN} {C : cC} {E : cE} {F : cF} {P : cP} {Q : cQ} {T : cT} {G : cG} {U : cU} {H : cH} {B : cB} {O : cO} {J : cJ} {V : cV} {Y : cY} {Z : cZ} {O9 : cO9} {k n : Nat} {p1 : Int32} {rv : Int32} {U' : cU} (h : fm_mark U H B p1 = some (rv, U')) (D : Nat) (hD : 1 ≤ D) : am_Call D 122 [.ref 19, .int p1] (W9 N C E F P Q T G U H B O J V Y Z O9) k n (.inl (some (.int rv)), W9 N C E F P Q T G U' H B O J V Y Z O9, k, n) := by
  unfold fm_mark at h
  obtain ⟨D, rfl⟩ : ∃ D', D = D' + 1 := ⟨D - 1, by omega⟩
  have hD : 0 ≤ D := by omega
  refine am_call_run (by decide) (by decide) rfl (Nat.le_of_ble_eq_true rfl) (by decide) (L := [(0, .ref 19), (1, .int p1)]) rfl ?_
  refine am_ev_st 6 (f' := am_br (H = 0) 26 9 [(0, .ref 19), (1, .int p1)] [] (W9 N C E F P Q T G ((0 : Int32)) H B O J V Y Z O9) k n) (g := True ∧ True ∧ True ∧ True ∧ True ∧ True ∧ True) (by with_unfolding_all rfl) ⟨trivial, trivial, trivial, trivial, trivial, trivial, trivial⟩ ?_
  by_cases c1 : H = 0
  · rw [if_pos c1] at h
    refine am_ev_pos c1 ?_
    refine am_ev_st 2 (f' := (36, [(0, .ref 19), (1, .int p1)], [.int (-1 : Int32)], (W9 N C E F P Q T G ((0 : Int32)) H B O J V Y Z O9), k, n)) (g := True ∧ True ∧ True) (by with_unfolding_all rfl) ⟨trivial, trivial, trivial⟩ ?_
    cases h
    exact am_ev_ret 0 0 0 rfl .int rfl rfl rfl
  · rw [if_neg c1] at h
    refine am_ev_neg c1 ?_
    refine am_ev_st 2 (f' := am_br (p1 < 0) 26 13 [(0, .ref 19), (1, .int p1)] [] (W9 N C E F P Q T G ((0 : Int32)) H B O J V Y Z O9) k n) (g := True ∧ True ∧ True) (by with_unfolding_all rfl) ⟨trivial, trivial, trivial⟩ ?_
    by_cases c2 : p1 < 0
    · rw [if_pos c2] at h
      refine am_ev_pos c2 ?_
      refine am_ev_st 2 (f' := (36, [(0, .ref 19), (1, .int p1)], [.int (-1 : Int32)], (W9 N C E F P Q T G ((0 : Int32)) H B O J V Y Z O9), k, n)) (g := True ∧ True ∧ True) (by with_unfolding_all rfl) ⟨trivial, trivial, trivial⟩ ?_
      cases h
      exact am_ev_ret 0 0 0 rfl .int rfl rfl rfl
    · rw [if_neg c2] at h
      refine am_ev_neg c2 ?_
      obtain ⟨br, bl⟩ := B
      try dsimp only at h
      by_cases g3 : ((2 : Int32) < 0 ∨ 96 ≤ ((2 : Int32)).toNatClampNeg)
      · rw [if_pos g3] at h; cases h
      rw [if_neg g3] at h
      refine am_ev_st 6 (f' := am_br (p1 < (bl ((2 : Int32)).toNatClampNeg)) 30 23 [(0, .ref 19), (1, .int p1)] [] (W9 N C E F P Q T G ((0 : Int32)) H (br, bl) O J V Y Z O9) k n) (g := True ∧ True ∧ True ∧ True ∧ vp_in ((2 : Int32)) 96 ∧ True ∧ True) (by with_unfolding_all rfl) ⟨trivial, trivial, trivial, trivial, g3, trivial, trivial⟩ ?_
      by_cases c4 : p1 < (bl ((2 : Int32)).toNatClampNeg)
      · rw [if_pos c4] at h
        refine am_ev_pos c4 ?_
        cases h
      · rw [if_neg c4] at h
        refine am_ev_neg c4 ?_
        refine am_ev_st 2 (f' := (36, [(0, .ref 19), (1, .int p1)], [.int (-1 : Int32)], (W9 N C E F P Q T G ((0 : Int32)) H (br, bl) O J V Y Z O9), k, n)) (g := True ∧ True ∧ True) (by with_unfolding_all rfl) ⟨trivial, trivial, trivial⟩ ?_
        cases h
        exact am_ev_ret 0 0 0 rfl .int rfl rfl rfl
def lp_fm_keep_26 (fl : Nat) : Nat → cT → cU → cH → cB → Int32 → Int32 → Int32 → Int32 → Option (Int32 × cU)
  | 0, _, _, _, _, _, _, _, _ => none
  | w + 1, T, U, H, B, v1, v2, v3, v4 =>
    match B with
    | (br, bl) =>
    if ((2 : Int32) < 0 ∨ 96 ≤ ((2 : Int32)).toNatClampNeg) then none else
    if (bl ((2 : Int32)).toNatClampNeg) ≤ v4 then
    (some (v3, U))
    else
    none
def fm_keep (fl : Nat) (T : cT) (U : cU) (H : cH) (B : cB) : Option (Int32 × cU) :=
  if H ≠ 0 then
  (match T with
  | (te, tk, ta, tb, tn, td) =>
  lp_fm_keep_26 fl fl T ((0 : Int32)) H B te (0 : Int32) (-1 : Int32) (0 : Int32))
  else
  some ((-1 : Int32), ((0 : Int32)))
set_option maxHeartbeats 4000000 in
set_option maxRecDepth 100000 in
theorem ok_lp_fm_keep_26 {fl : Nat} : ∀ {w : Nat} {N : cN} {C : cC} {E : cE} {F : cF} {P : cP} {Q : cQ} {T : cT} {G : cG} {U : cU} {H : cH} {B : cB} {O : cO} {J : cJ} {V : cV} {Y : cY} {Z : cZ} {O9 : cO9} {k n : Nat} {v1 : Int32} {v2 : Int32} {v3 : Int32} {v4 : Int32} {rv : Int32} {U' : cU} (h : lp_fm_keep_26 fl w T U H B v1 v2 v3 v4 = some (rv, U')) (D : Nat) (hD : 0 ≤ D), am_Ev D 124 0 (fun _ => 0) (26, [(0, .ref 19), (1, .int v1), (2, .int v2), (3, .int v3), (4, .int v4)], [], (W9 N C E F P Q T G U H B O J V Y Z O9), k, n) (.inl (some (.int rv)), W9 N C E F P Q T G U' H B O J V Y Z O9, k, n) := by
  intro w
  induction w with
  | zero => intros; rename_i h _ _; cases h
  | succ w ih0 =>
    intro N C E F P Q T G U H B O J V Y Z O9 k n v1 v2 v3 v4 rv U' h D hD
    have ih := fun {N} {C} {E} {F} {P} {Q} {T} {G} {U} {H} {B} {O} {J} {V} {Y} {Z} {O9} {k} {n} {v1} {v2} {v3} {v4} {rv} {U'} h => @ih0 N C E F P Q T G U H B O J V Y Z O9 k n v1 v2 v3 v4 rv U' h D hD
    unfold lp_fm_keep_26 at h
    obtain ⟨br, bl⟩ := B
    try dsimp only at h
    by_cases g2 : ((2 : Int32) < 0 ∨ 96 ≤ ((2 : Int32)).toNatClampNeg)
    · rw [if_pos g2] at h; cases h
    rw [if_neg g2] at h
    refine am_ev_st 6 (f' := am_br ((bl ((2 : Int32)).toNatClampNeg) ≤ v4) 164 34 [(0, .ref 19), (1, .int v1), (2, .int v2), (3, .int v3), (4, .int v4)] [] (W9 N C E F P Q T G U H (br, bl) O J V Y Z O9) k n) (g := True ∧ True ∧ True ∧ True ∧ vp_in ((2 : Int32)) 96 ∧ True ∧ True) (by with_unfolding_all rfl) ⟨trivial, trivial, trivial, trivial, g2, trivial, trivial⟩ ?_
    by_cases c3 : (bl ((2 : Int32)).toNatClampNeg) ≤ v4
    · rw [if_pos c3] at h
      refine am_ev_pos c3 ?_
      refine am_ev_st 1 (f' := (165, [(0, .ref 19), (1, .int v1), (2, .int v2), (3, .int v3), (4, .int v4)], [.int v3], (W9 N C E F P Q T G U H (br, bl) O J V Y Z O9), k, n)) (g := True ∧ True) (by with_unfolding_all rfl) ⟨trivial, trivial⟩ ?_
      cases h
      exact am_ev_ret 0 0 0 rfl .int rfl rfl rfl
    · rw [if_neg c3] at h
      refine am_ev_neg c3 ?_
      cases h
set_option maxHeartbeats 4000000 in
set_option maxRecDepth 100000 in
theorem ok_fm_keep {fl : Nat} {N : cN} {C : cC} {E : cE} {F : cF} {P : cP} {Q : cQ} {T : cT} {G : cG} {U : cU} {H : cH} {B : cB} {O : cO} {J : cJ} {V : cV} {Y : cY} {Z : cZ} {O9 : cO9} {k n : Nat} {rv : Int32} {U' : cU} (h : fm_keep fl T U H B = some (rv, U')) (D : Nat) (hD : 1 ≤ D) : am_Call D 124 [.ref 19] (W9 N C E F P Q T G U H B O J V Y Z O9) k n (.inl (some (.int rv)), W9 N C E F P Q T G U' H B O J V Y Z O9, k, n) := by
  unfold fm_keep at h
  obtain ⟨D, rfl⟩ : ∃ D', D = D' + 1 := ⟨D - 1, by omega⟩
  have hD : 0 ≤ D := by omega
  refine am_call_run (by decide) (by decide) rfl (Nat.le_of_ble_eq_true rfl) (by decide) (L := [(0, .ref 19)]) rfl ?_
  refine am_ev_st 6 (f' := am_br (H ≠ 0) 14 9 [(0, .ref 19)] [] (W9 N C E F P Q T G ((0 : Int32)) H B O J V Y Z O9) k n) (g := True ∧ True ∧ True ∧ True ∧ True ∧ True ∧ True) (by with_unfolding_all rfl) ⟨trivial, trivial, trivial, trivial, trivial, trivial, trivial⟩ ?_
  by_cases c1 : H ≠ 0
  · rw [if_pos c1] at h
    refine am_ev_pos c1 ?_
    obtain ⟨te, tk, ta, tb, tn, td⟩ := T
    try dsimp only at h
    refine am_ev_st 9 (f' := (26, [(4, .int (0 : Int32)), (3, .int (-1 : Int32)), (2, .int (0 : Int32)), (1, .int te), (0, .ref 19)], [], (W9 N C E F P Q (te, tk, ta, tb, tn, td) G ((0 : Int32)) H B O J V Y Z O9), k, n)) (g := True ∧ True ∧ True ∧ True ∧ True ∧ True ∧ True ∧ True ∧ True ∧ True) (by with_unfolding_all rfl) ⟨trivial, trivial, trivial, trivial, trivial, trivial, trivial, trivial, trivial, trivial⟩ ?_
    refine am_ev_drop [4, 3, 2, 1, 0] rfl rfl ?_
    exact ok_lp_fm_keep_26 h D hD
  · rw [if_neg c1] at h
    refine am_ev_neg c1 ?_
    refine am_ev_st 1 (f' := (13, [(0, .ref 19)], [.int (-1 : Int32)], (W9 N C E F P Q T G ((0 : Int32)) H B O J V Y Z O9), k, n)) (g := True ∧ True) (by with_unfolding_all rfl) ⟨trivial, trivial⟩ ?_
    cases h
    exact am_ev_ret 0 0 0 rfl .int rfl rfl rfl
def fm_reduced (U : cU) (V : cV) : Option (Int32 × cU) :=
  match V with
  | (vf, vu, vx) =>
  some (vu, ((0 : Int32)))
set_option maxHeartbeats 4000000 in
set_option maxRecDepth 100000 in
theorem ok_fm_reduced  {N : cN} {C : cC} {E : cE} {F : cF} {P : cP} {Q : cQ} {T : cT} {G : cG} {U : cU} {H : cH} {B : cB} {O : cO} {J : cJ} {V : cV} {Y : cY} {Z : cZ} {O9 : cO9} {k n : Nat} {rv : Int32} {U' : cU} (h : fm_reduced U V = some (rv, U')) (D : Nat) (hD : 1 ≤ D) : am_Call D 125 [.ref 19] (W9 N C E F P Q T G U H B O J V Y Z O9) k n (.inl (some (.int rv)), W9 N C E F P Q T G U' H B O J V Y Z O9, k, n) := by
  unfold fm_reduced at h
  obtain ⟨D, rfl⟩ : ∃ D', D = D' + 1 := ⟨D - 1, by omega⟩
  have hD : 0 ≤ D := by omega
  refine am_call_run (by decide) (by decide) rfl (Nat.le_of_ble_eq_true rfl) (by decide) (L := [(0, .ref 19)]) rfl ?_
  obtain ⟨vf, vu, vx⟩ := V
  try dsimp only at h
  refine am_ev_st 5 (f' := (9, [(0, .ref 19)], [.int vu], (W9 N C E F P Q T G ((0 : Int32)) H B O J (vf, vu, vx) Y Z O9), k, n)) (g := True ∧ True ∧ True ∧ True ∧ True ∧ True) (by with_unfolding_all rfl) ⟨trivial, trivial, trivial, trivial, trivial, trivial⟩ ?_
  cases h
  exact am_ev_ret 0 0 0 rfl .int rfl rfl rfl
def fN_isTerm (N : cN) (p1 : Int32) : Option (Bool) :=
  if p1 < 0 then
  (some false)
  else
  match N with
  | (nK, nL, nR, nS, nD, cap, mt, le, en) =>
  if mt ≤ p1 then
  (some false)
  else
  some true
set_option maxHeartbeats 4000000 in
set_option maxRecDepth 100000 in
theorem ok_fN_isTerm  {N : cN} {C : cC} {E : cE} {F : cF} {P : cP} {Q : cQ} {T : cT} {G : cG} {U : cU} {H : cH} {B : cB} {O : cO} {J : cJ} {V : cV} {Y : cY} {Z : cZ} {O9 : cO9} {k n : Nat} {p1 : Int32} {rv : Bool} (h : fN_isTerm N p1 = some rv) (D : Nat) (hD : 1 ≤ D) : am_Call D 27 [.ref 1, .int p1] (W9 N C E F P Q T G U H B O J V Y Z O9) k n (.inl (some (.int (am_bz rv))), W9 N C E F P Q T G U H B O J V Y Z O9, k, n) := by
  unfold fN_isTerm at h
  obtain ⟨D, rfl⟩ : ∃ D', D = D' + 1 := ⟨D - 1, by omega⟩
  have hD : 0 ≤ D := by omega
  refine am_call_run (by decide) (by decide) rfl (Nat.le_of_ble_eq_true rfl) (by decide) (L := [(0, .ref 1), (1, .int p1)]) rfl ?_
  refine am_ev_st 2 (f' := am_br (p1 < 0) 16 1 [(0, .ref 1), (1, .int p1)] [] (W9 N C E F P Q T G U H B O J V Y Z O9) k n) (g := True ∧ True ∧ True) (by with_unfolding_all rfl) ⟨trivial, trivial, trivial⟩ ?_
  by_cases c1 : p1 < 0
  · rw [if_pos c1] at h
    refine am_ev_pos c1 ?_
    refine am_ev_st 1 (f' := (17, [(0, .ref 1), (1, .int p1)], [.int (0 : Int32)], (W9 N C E F P Q T G U H B O J V Y Z O9), k, n)) (g := True ∧ True) (by with_unfolding_all rfl) ⟨trivial, trivial⟩ ?_
    cases h
    exact am_ev_ret 0 0 0 rfl .boolean rfl am_n0 rfl
  · rw [if_neg c1] at h
    refine am_ev_neg c1 ?_
    obtain ⟨nK, nL, nR, nS, nD, cap, mt, le, en⟩ := N
    try dsimp only at h
    refine am_ev_st 4 (f' := am_br (mt ≤ p1) 16 9 [(0, .ref 1), (1, .int p1)] [] (W9 (nK, nL, nR, nS, nD, cap, mt, le, en) C E F P Q T G U H B O J V Y Z O9) k n) (g := True ∧ True ∧ True ∧ True ∧ True) (by with_unfolding_all rfl) ⟨trivial, trivial, trivial, trivial, trivial⟩ ?_
    by_cases c2 : mt ≤ p1
    · rw [if_pos c2] at h
      refine am_ev_pos c2 ?_
      refine am_ev_st 1 (f' := (17, [(0, .ref 1), (1, .int p1)], [.int (0 : Int32)], (W9 (nK, nL, nR, nS, nD, cap, mt, le, en) C E F P Q T G U H B O J V Y Z O9), k, n)) (g := True ∧ True) (by with_unfolding_all rfl) ⟨trivial, trivial⟩ ?_
      cases h
      exact am_ev_ret 0 0 0 rfl .boolean rfl am_n0 rfl
    · rw [if_neg c2] at h
      refine am_ev_neg c2 ?_
      refine am_ev_st 2 (f' := (17, [(0, .ref 1), (1, .int p1)], [.int (1 : Int32)], (W9 (nK, nL, nR, nS, nD, cap, mt, le, en) C E F P Q T G U H B O J V Y Z O9), k, n)) (g := True ∧ True ∧ True) (by with_unfolding_all rfl) ⟨trivial, trivial, trivial⟩ ?_
      cases h
      exact am_ev_ret 0 0 0 rfl .boolean rfl am_n1 rfl
def fN_dropPassing (N : cN) : Option (cN) :=
  match N with
  | (nK, nL, nR, nS, nD, cap, mt, le, en) =>
  some (nK, nL, nR, nS, nD, cap, mt, le, le)
set_option maxHeartbeats 4000000 in
set_option maxRecDepth 100000 in
theorem ok_fN_dropPassing  {N : cN} {C : cC} {E : cE} {F : cF} {P : cP} {Q : cQ} {T : cT} {G : cG} {U : cU} {H : cH} {B : cB} {O : cO} {J : cJ} {V : cV} {Y : cY} {Z : cZ} {O9 : cO9} {k n : Nat} {N' : cN} (h : fN_dropPassing N = some N') (D : Nat) (hD : 1 ≤ D) : am_Call D 41 [.ref 1] (W9 N C E F P Q T G U H B O J V Y Z O9) k n (.inl none, W9 N' C E F P Q T G U H B O J V Y Z O9, k, n) := by
  unfold fN_dropPassing at h
  obtain ⟨D, rfl⟩ : ∃ D', D = D' + 1 := ⟨D - 1, by omega⟩
  have hD : 0 ≤ D := by omega
  refine am_call_run (by decide) (by decide) rfl (Nat.le_of_ble_eq_true rfl) (by decide) (L := [(0, .ref 1)]) rfl ?_
  obtain ⟨nK, nL, nR, nS, nD, cap, mt, le, en⟩ := N
  try dsimp only at h
  refine am_ev_st 4 (f' := (8, [(0, .ref 1)], [], (W9 (nK, nL, nR, nS, nD, cap, mt, le, le) C E F P Q T G U H B O J V Y Z O9), k, n)) (g := True ∧ True ∧ True ∧ True ∧ True) (by with_unfolding_all rfl) ⟨trivial, trivial, trivial, trivial, trivial⟩ ?_
  cases h
  exact am_ev_vret 0 0 0 rfl rfl rfl
def fE_refuel (E : cE) (p1 : Int32) : Option (cE) :=
  match E with
  | (fi, se, op, fu, ma) =>
  some (fi, se, op, p1, (0 : Int32))
set_option maxHeartbeats 4000000 in
set_option maxRecDepth 100000 in
theorem ok_fE_refuel  {N : cN} {C : cC} {E : cE} {F : cF} {P : cP} {Q : cQ} {T : cT} {G : cG} {U : cU} {H : cH} {B : cB} {O : cO} {J : cJ} {V : cV} {Y : cY} {Z : cZ} {O9 : cO9} {k n : Nat} {p1 : Int32} {E' : cE} (h : fE_refuel E p1 = some E') (D : Nat) (hD : 1 ≤ D) : am_Call D 46 [.ref 10, .int p1] (W9 N C E F P Q T G U H B O J V Y Z O9) k n (.inl none, W9 N C E' F P Q T G U H B O J V Y Z O9, k, n) := by
  unfold fE_refuel at h
  obtain ⟨D, rfl⟩ : ∃ D', D = D' + 1 := ⟨D - 1, by omega⟩
  have hD : 0 ≤ D := by omega
  refine am_call_run (by decide) (by decide) rfl (Nat.le_of_ble_eq_true rfl) (by decide) (L := [(0, .ref 10), (1, .int p1)]) rfl ?_
  obtain ⟨fi, se, op, fu, ma⟩ := E
  try dsimp only at h
  refine am_ev_st 6 (f' := (10, [(0, .ref 10), (1, .int p1)], [], (W9 N C (fi, se, op, p1, (0 : Int32)) F P Q T G U H B O J V Y Z O9), k, n)) (g := True ∧ True ∧ True ∧ True ∧ True ∧ True ∧ True) (by with_unfolding_all rfl) ⟨trivial, trivial, trivial, trivial, trivial, trivial, trivial⟩ ?_
  cases h
  exact am_ev_vret 0 0 0 rfl rfl rfl
def fF_forgetTypes (F : cF) : Option (cF) :=
  match F with
  | (tt, tc) =>
  some (tt, (0 : Int32))
set_option maxHeartbeats 4000000 in
set_option maxRecDepth 100000 in
theorem ok_fF_forgetTypes  {N : cN} {C : cC} {E : cE} {F : cF} {P : cP} {Q : cQ} {T : cT} {G : cG} {U : cU} {H : cH} {B : cB} {O : cO} {J : cJ} {V : cV} {Y : cY} {Z : cZ} {O9 : cO9} {k n : Nat} {F' : cF} (h : fF_forgetTypes F = some F') (D : Nat) (hD : 1 ≤ D) : am_Call D 8 [.ref 13] (W9 N C E F P Q T G U H B O J V Y Z O9) k n (.inl none, W9 N C E F' P Q T G U H B O J V Y Z O9, k, n) := by
  unfold fF_forgetTypes at h
  obtain ⟨D, rfl⟩ : ∃ D', D = D' + 1 := ⟨D - 1, by omega⟩
  have hD : 0 ≤ D := by omega
  refine am_call_run (by decide) (by decide) rfl (Nat.le_of_ble_eq_true rfl) (by decide) (L := [(0, .ref 13)]) rfl ?_
  obtain ⟨tt, tc⟩ := F
  try dsimp only at h
  refine am_ev_st 3 (f' := (5, [(0, .ref 13)], [], (W9 N C E (tt, (0 : Int32)) P Q T G U H B O J V Y Z O9), k, n)) (g := True ∧ True ∧ True ∧ True) (by with_unfolding_all rfl) ⟨trivial, trivial, trivial, trivial⟩ ?_
  cases h
  exact am_ev_vret 0 0 0 rfl rfl rfl
def fJ_begin (N : cN) (E : cE) (F : cF) (k n : Nat) (p1 p2 p3 : Int32) : Option (((Unit) ⊕ Nat) × cN × cE × cF × (Nat × Nat)) :=
  (fN_isTerm N p1).bind fun z1 =>
  match z1 with
  | (r1) =>
  if (am_bz r1) = 0 then
  (some (.inr 0, N, E, F, ((k + 1), (n + 6))))
  else
  (fN_isTerm N p2).bind fun z3 =>
  match z3 with
  | (r3) =>
  if (am_bz r3) = 0 then
  (some (.inr 0, N, E, F, ((k + 1), (n + 6))))
  else
  if p3 < 0 then
  (some (.inr 0, N, E, F, ((k + 1), (n + 6))))
  else
  if p3 ≤ (30 : Int32) then
  ((fN_dropPassing N).bind fun z7 =>
  match z7 with
  | (N_7) =>
  (fE_refuel E p3).bind fun z8 =>
  match z8 with
  | (E_8) =>
  (fF_forgetTypes F).bind fun z9 =>
  match z9 with
  | (F_9) =>
  some (.inl (), N_7, E_8, F_9, (k, n)))
  else
  some (.inr 0, N, E, F, ((k + 1), (n + 6)))
set_option maxHeartbeats 4000000 in
set_option maxRecDepth 100000 in
theorem ok_fJ_begin  {N : cN} {C : cC} {E : cE} {F : cF} {P : cP} {Q : cQ} {T : cT} {G : cG} {U : cU} {H : cH} {B : cB} {O : cO} {J : cJ} {V : cV} {Y : cY} {Z : cZ} {O9 : cO9} {k n : Nat} {p1 p2 p3 : Int32} {rv : (Unit) ⊕ Nat} {N' : cN} {E' : cE} {F' : cF} {k' n' : Nat} (h : fJ_begin N E F k n p1 p2 p3 = some (rv, N', E', F', (k', n'))) (D : Nat) (hD : 2 ≤ D) : am_Call D 73 [.ref 0, .int p1, .int p2, .int p3] (W9 N C E F P Q T G U H B O J V Y Z O9) k n (am_oV rv, W9 N' C E' F' P Q T G U H B O J V Y Z O9, k', n') := by
  unfold fJ_begin at h
  obtain ⟨D, rfl⟩ : ∃ D', D = D' + 1 := ⟨D - 1, by omega⟩
  have hD : 1 ≤ D := by omega
  refine am_call_run (by decide) (by decide) rfl (Nat.le_of_ble_eq_true rfl) (by decide) (L := [(0, .ref 0), (1, .int p1), (2, .int p2), (3, .int p3)]) rfl ?_
  refine am_ev_st 3 (f' := (5, [(0, .ref 0), (1, .int p1), (2, .int p2), (3, .int p3)], [.int p1, .ref 1], (W9 N C E F P Q T G U H B O J V Y Z O9), k, n)) (g := True ∧ True ∧ True ∧ True) (by with_unfolding_all rfl) ⟨trivial, trivial, trivial, trivial⟩ ?_
  replace h := Option.bind_eq_some_iff.mp h
  obtain ⟨r1, hc1, h⟩ := h
  try dsimp only at h
  refine am_ev_call (.invokevirtual 67) 27 2 223 [.ref 1, .int p1] [] rfl rfl rfl rfl (ok_fN_isTerm hc1 D (by omega)) rfl ?_
  refine am_ev_st 1 (f' := am_br ((am_bz r1) = 0) 32 8 [(0, .ref 0), (1, .int p1), (2, .int p2), (3, .int p3)] [] (W9 N C E F P Q T G U H B O J V Y Z O9) k n) (g := True ∧ True) (by with_unfolding_all rfl) ⟨trivial, trivial⟩ ?_
  by_cases c2 : (am_bz r1) = 0
  · rw [if_pos c2] at h
    refine am_ev_pos c2 ?_
    cases h
    exact am_ev_throw (.new 157) 11 0 469 rfl _ rfl rfl rfl rfl rfl rfl rfl
  · rw [if_neg c2] at h
    refine am_ev_neg c2 ?_
    refine am_ev_st 3 (f' := (16, [(0, .ref 0), (1, .int p1), (2, .int p2), (3, .int p3)], [.int p2, .ref 1], (W9 N C E F P Q T G U H B O J V Y Z O9), k, n)) (g := True ∧ True ∧ True ∧ True) (by with_unfolding_all rfl) ⟨trivial, trivial, trivial, trivial⟩ ?_
    replace h := Option.bind_eq_some_iff.mp h
    obtain ⟨r3, hc3, h⟩ := h
    try dsimp only at h
    refine am_ev_call (.invokevirtual 67) 27 2 223 [.ref 1, .int p2] [] rfl rfl rfl rfl (ok_fN_isTerm hc3 D (by omega)) rfl ?_
    refine am_ev_st 1 (f' := am_br ((am_bz r3) = 0) 32 19 [(0, .ref 0), (1, .int p1), (2, .int p2), (3, .int p3)] [] (W9 N C E F P Q T G U H B O J V Y Z O9) k n) (g := True ∧ True) (by with_unfolding_all rfl) ⟨trivial, trivial⟩ ?_
    by_cases c4 : (am_bz r3) = 0
    · rw [if_pos c4] at h
      refine am_ev_pos c4 ?_
      cases h
      exact am_ev_throw (.new 157) 11 0 469 rfl _ rfl rfl rfl rfl rfl rfl rfl
    · rw [if_neg c4] at h
      refine am_ev_neg c4 ?_
      refine am_ev_st 2 (f' := am_br (p3 < 0) 32 23 [(0, .ref 0), (1, .int p1), (2, .int p2), (3, .int p3)] [] (W9 N C E F P Q T G U H B O J V Y Z O9) k n) (g := True ∧ True ∧ True) (by with_unfolding_all rfl) ⟨trivial, trivial, trivial⟩ ?_
      by_cases c5 : p3 < 0
      · rw [if_pos c5] at h
        refine am_ev_pos c5 ?_
        cases h
        exact am_ev_throw (.new 157) 11 0 469 rfl _ rfl rfl rfl rfl rfl rfl rfl
      · rw [if_neg c5] at h
        refine am_ev_neg c5 ?_
        refine am_ev_st 3 (f' := am_br (p3 ≤ (30 : Int32)) 42 29 [(0, .ref 0), (1, .int p1), (2, .int p2), (3, .int p3)] [] (W9 N C E F P Q T G U H B O J V Y Z O9) k n) (g := True ∧ True ∧ True ∧ True) (by with_unfolding_all rfl) ⟨trivial, trivial, trivial, trivial⟩ ?_
        by_cases c6 : p3 ≤ (30 : Int32)
        · rw [if_pos c6] at h
          refine am_ev_pos c6 ?_
          refine am_ev_st 2 (f' := (46, [(0, .ref 0), (1, .int p1), (2, .int p2), (3, .int p3)], [.ref 1], (W9 N C E F P Q T G U H B O J V Y Z O9), k, n)) (g := True ∧ True ∧ True) (by with_unfolding_all rfl) ⟨trivial, trivial, trivial⟩ ?_
          replace h := Option.bind_eq_some_iff.mp h
          obtain ⟨N_7, hc7, h⟩ := h
          try dsimp only at h
          refine am_ev_call (.invokevirtual 164) 41 0 485 [.ref 1] [] rfl rfl rfl rfl (ok_fN_dropPassing hc7 D (by omega)) rfl ?_
          refine am_ev_st 3 (f' := (54, [(0, .ref 0), (1, .int p1), (2, .int p2), (3, .int p3)], [.int p3, .ref 10], (W9 N_7 C E F P Q T G U H B O J V Y Z O9), k, n)) (g := True ∧ True ∧ True ∧ True) (by with_unfolding_all rfl) ⟨trivial, trivial, trivial, trivial⟩ ?_
          replace h := Option.bind_eq_some_iff.mp h
          obtain ⟨E_8, hc8, h⟩ := h
          try dsimp only at h
          refine am_ev_call (.invokevirtual 167) 46 2 489 [.ref 10, .int p3] [] rfl rfl rfl rfl (ok_fE_refuel hc8 D (by omega)) rfl ?_
          refine am_ev_st 2 (f' := (61, [(0, .ref 0), (1, .int p1), (2, .int p2), (3, .int p3)], [.ref 13], (W9 N_7 C E_8 F P Q T G U H B O J V Y Z O9), k, n)) (g := True ∧ True ∧ True) (by with_unfolding_all rfl) ⟨trivial, trivial, trivial⟩ ?_
          replace h := Option.bind_eq_some_iff.mp h
          obtain ⟨F_9, hc9, h⟩ := h
          try dsimp only at h
          refine am_ev_call (.invokevirtual 170) 8 0 493 [.ref 13] [] rfl rfl rfl rfl (ok_fF_forgetTypes hc9 D (by omega)) rfl ?_
          cases h
          exact am_ev_vret 0 0 0 rfl rfl rfl
        · rw [if_neg c6] at h
          refine am_ev_neg c6 ?_
          cases h
          exact am_ev_throw (.new 157) 11 0 469 rfl _ rfl rfl rfl rfl rfl rfl rfl
def fJ_infer (N : cN) (E : cE) (F : cF) (k n : Nat) (p1 p2 : Int32) : Option (((Int32) ⊕ Nat) × cN × cE × cF × (Nat × Nat)) :=
  (fJ_begin N E F k n p1 p1 p2).bind fun z1 =>
  match z1 with
  | (.inl (), N_1, E_1, F_1, (k_1, n_1)) =>
  (none)
  | (.inr e1, N_1, E_1, F_1, (k_1, n_1)) =>
  (some (.inr e1, N_1, E_1, F_1, (k_1, n_1)))
set_option maxHeartbeats 4000000 in
set_option maxRecDepth 100000 in
theorem ok_fJ_infer  {N : cN} {C : cC} {E : cE} {F : cF} {P : cP} {Q : cQ} {T : cT} {G : cG} {U : cU} {H : cH} {B : cB} {O : cO} {J : cJ} {V : cV} {Y : cY} {Z : cZ} {O9 : cO9} {k n : Nat} {p1 p2 : Int32} {rv : (Int32) ⊕ Nat} {N' : cN} {E' : cE} {F' : cF} {k' n' : Nat} (h : fJ_infer N E F k n p1 p2 = some (rv, N', E', F', (k', n'))) (D : Nat) (hD : 3 ≤ D) : am_Call D 59 [.ref 0, .int p1, .int p2] (W9 N C E F P Q T G U H B O J V Y Z O9) k n (am_oI rv, W9 N' C E' F' P Q T G U H B O J V Y Z O9, k', n') := by
  unfold fJ_infer at h
  obtain ⟨D, rfl⟩ : ∃ D', D = D' + 1 := ⟨D - 1, by omega⟩
  have hD : 2 ≤ D := by omega
  refine am_call_run (by decide) (by decide) rfl (Nat.le_of_ble_eq_true rfl) (by decide) (L := [(0, .ref 0), (1, .int p1), (2, .int p2)]) rfl ?_
  refine am_ev_st 4 (f' := (4, [(0, .ref 0), (1, .int p1), (2, .int p2)], [.int p2, .int p1, .int p1, .ref 0], (W9 N C E F P Q T G U H B O J V Y Z O9), k, n)) (g := True ∧ True ∧ True ∧ True ∧ True) (by with_unfolding_all rfl) ⟨trivial, trivial, trivial, trivial, trivial⟩ ?_
  replace h := Option.bind_eq_some_iff.mp h
  obtain ⟨⟨⟨⟩ | e1, N_1, E_1, F_1, ⟨k_1, n_1⟩⟩, hc1, h⟩ := h
  · dsimp only at h
    refine am_ev_call (.invokevirtual 86) 73 6 465 [.ref 0, .int p1, .int p1, .int p2] [] rfl rfl rfl rfl (ok_fJ_begin hc1 D (by omega)) rfl ?_
    cases h
  · dsimp only at h
    cases h
    exact am_ev_callx (.invokevirtual 86) 73 6 465 [.ref 0, .int p1, .int p1, .int p2] [] rfl rfl rfl rfl (ok_fJ_begin hc1 D (by omega)) rfl rfl rfl
