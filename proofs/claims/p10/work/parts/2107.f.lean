def fm_starts (T : cT) (U : cU) (V : cV) (p1 p2 p3 : Int32) : Option (Bool × cU × cV) :=
  (fm_isTerm T p1).bind fun z1 =>
  match z1 with
  | (r1) =>
  if (am_bz r1) = 0 then
  (some (false, ((1 : Int32)), V))
  else
  (fm_isTerm T p2).bind fun z3 =>
  match z3 with
  | (r3) =>
  if (am_bz r3) = 0 then
  (some (false, ((1 : Int32)), V))
  else
  if p3 < 0 then
  (some (false, ((1 : Int32)), V))
  else
  if p3 ≤ (30 : Int32) then
  (match V with
  | (vf, vu, vx) =>
  some (true, ((0 : Int32)), (p3, (0 : Int32), (0 : Int32))))
  else
  some (false, ((1 : Int32)), V)
set_option maxHeartbeats 4000000 in
set_option maxRecDepth 100000 in
theorem ok_fm_starts  {N : cN} {C : cC} {E : cE} {F : cF} {P : cP} {Q : cQ} {T : cT} {G : cG} {U : cU} {H : cH} {B : cB} {O : cO} {J : cJ} {V : cV} {Y : cY} {Z : cZ} {O9 : cO9} {k n : Nat} {p1 p2 p3 : Int32} {rv : Bool} {U' : cU} {V' : cV} (h : fm_starts T U V p1 p2 p3 = some (rv, U', V')) (D : Nat) (hD : 2 ≤ D) : am_Call D 111 [.ref 19, .int p1, .int p2, .int p3] (W9 N C E F P Q T G U H B O J V Y Z O9) k n (.inl (some (.int (am_bz rv))), W9 N C E F P Q T G U' H B O J V' Y Z O9, k, n) := by
  unfold fm_starts at h
  obtain ⟨D, rfl⟩ : ∃ D', D = D' + 1 := ⟨D - 1, by omega⟩
  have hD : 1 ≤ D := by omega
  refine am_call_run (by decide) (by decide) rfl (Nat.le_of_ble_eq_true rfl) (by decide) (L := [(0, .ref 19), (1, .int p1), (2, .int p2), (3, .int p3)]) rfl ?_
  refine am_ev_st 5 (f' := (7, [(0, .ref 19), (1, .int p1), (2, .int p2), (3, .int p3)], [.int p1, .ref 19], (W9 N C E F P Q T G ((0 : Int32)) H B O J V Y Z O9), k, n)) (g := True ∧ True ∧ True ∧ True ∧ True ∧ True) (by with_unfolding_all rfl) ⟨trivial, trivial, trivial, trivial, trivial, trivial⟩ ?_
  replace h := Option.bind_eq_some_iff.mp h
  obtain ⟨r1, hc1, h⟩ := h
  try dsimp only at h
  refine am_ev_call (.invokevirtual 193) 108 2 796 [.ref 19, .int p1] [] rfl rfl rfl rfl (ok_fm_isTerm hc1 D (by omega)) rfl ?_
  refine am_ev_st 1 (f' := am_br ((am_bz r1) = 0) 31 10 [(0, .ref 19), (1, .int p1), (2, .int p2), (3, .int p3)] [] (W9 N C E F P Q T G ((0 : Int32)) H B O J V Y Z O9) k n) (g := True ∧ True) (by with_unfolding_all rfl) ⟨trivial, trivial⟩ ?_
  by_cases c2 : (am_bz r1) = 0
  · rw [if_pos c2] at h
    refine am_ev_pos c2 ?_
    refine am_ev_st 4 (f' := (37, [(0, .ref 19), (1, .int p1), (2, .int p2), (3, .int p3)], [.int (0 : Int32)], (W9 N C E F P Q T G ((1 : Int32)) H B O J V Y Z O9), k, n)) (g := True ∧ True ∧ True ∧ True ∧ True) (by with_unfolding_all rfl) ⟨trivial, trivial, trivial, trivial, trivial⟩ ?_
    cases h
    exact am_ev_ret 0 0 0 rfl .boolean rfl am_n0 rfl
  · rw [if_neg c2] at h
    refine am_ev_neg c2 ?_
    refine am_ev_st 2 (f' := (15, [(0, .ref 19), (1, .int p1), (2, .int p2), (3, .int p3)], [.int p2, .ref 19], (W9 N C E F P Q T G ((0 : Int32)) H B O J V Y Z O9), k, n)) (g := True ∧ True ∧ True) (by with_unfolding_all rfl) ⟨trivial, trivial, trivial⟩ ?_
    replace h := Option.bind_eq_some_iff.mp h
    obtain ⟨r3, hc3, h⟩ := h
    try dsimp only at h
    refine am_ev_call (.invokevirtual 193) 108 2 796 [.ref 19, .int p2] [] rfl rfl rfl rfl (ok_fm_isTerm hc3 D (by omega)) rfl ?_
    refine am_ev_st 1 (f' := am_br ((am_bz r3) = 0) 31 18 [(0, .ref 19), (1, .int p1), (2, .int p2), (3, .int p3)] [] (W9 N C E F P Q T G ((0 : Int32)) H B O J V Y Z O9) k n) (g := True ∧ True) (by with_unfolding_all rfl) ⟨trivial, trivial⟩ ?_
    by_cases c4 : (am_bz r3) = 0
    · rw [if_pos c4] at h
      refine am_ev_pos c4 ?_
      refine am_ev_st 4 (f' := (37, [(0, .ref 19), (1, .int p1), (2, .int p2), (3, .int p3)], [.int (0 : Int32)], (W9 N C E F P Q T G ((1 : Int32)) H B O J V Y Z O9), k, n)) (g := True ∧ True ∧ True ∧ True ∧ True) (by with_unfolding_all rfl) ⟨trivial, trivial, trivial, trivial, trivial⟩ ?_
      cases h
      exact am_ev_ret 0 0 0 rfl .boolean rfl am_n0 rfl
    · rw [if_neg c4] at h
      refine am_ev_neg c4 ?_
      refine am_ev_st 2 (f' := am_br (p3 < 0) 31 22 [(0, .ref 19), (1, .int p1), (2, .int p2), (3, .int p3)] [] (W9 N C E F P Q T G ((0 : Int32)) H B O J V Y Z O9) k n) (g := True ∧ True ∧ True) (by with_unfolding_all rfl) ⟨trivial, trivial, trivial⟩ ?_
      by_cases c5 : p3 < 0
      · rw [if_pos c5] at h
        refine am_ev_pos c5 ?_
        refine am_ev_st 4 (f' := (37, [(0, .ref 19), (1, .int p1), (2, .int p2), (3, .int p3)], [.int (0 : Int32)], (W9 N C E F P Q T G ((1 : Int32)) H B O J V Y Z O9), k, n)) (g := True ∧ True ∧ True ∧ True ∧ True) (by with_unfolding_all rfl) ⟨trivial, trivial, trivial, trivial, trivial⟩ ?_
        cases h
        exact am_ev_ret 0 0 0 rfl .boolean rfl am_n0 rfl
      · rw [if_neg c5] at h
        refine am_ev_neg c5 ?_
        refine am_ev_st 3 (f' := am_br (p3 ≤ (30 : Int32)) 38 28 [(0, .ref 19), (1, .int p1), (2, .int p2), (3, .int p3)] [] (W9 N C E F P Q T G ((0 : Int32)) H B O J V Y Z O9) k n) (g := True ∧ True ∧ True ∧ True) (by with_unfolding_all rfl) ⟨trivial, trivial, trivial, trivial⟩ ?_
        by_cases c6 : p3 ≤ (30 : Int32)
        · rw [if_pos c6] at h
          refine am_ev_pos c6 ?_
          obtain ⟨vf, vu, vx⟩ := V
          try dsimp only at h
          refine am_ev_st 10 (f' := (54, [(0, .ref 19), (1, .int p1), (2, .int p2), (3, .int p3)], [.int (1 : Int32)], (W9 N C E F P Q T G ((0 : Int32)) H B O J (p3, (0 : Int32), (0 : Int32)) Y Z O9), k, n)) (g := True ∧ True ∧ True ∧ True ∧ True ∧ True ∧ True ∧ True ∧ True ∧ True ∧ True) (by with_unfolding_all rfl) ⟨trivial, trivial, trivial, trivial, trivial, trivial, trivial, trivial, trivial, trivial, trivial⟩ ?_
          cases h
          exact am_ev_ret 0 0 0 rfl .boolean rfl am_n1 rfl
        · rw [if_neg c6] at h
          refine am_ev_neg c6 ?_
          refine am_ev_st 4 (f' := (37, [(0, .ref 19), (1, .int p1), (2, .int p2), (3, .int p3)], [.int (0 : Int32)], (W9 N C E F P Q T G ((1 : Int32)) H B O J V Y Z O9), k, n)) (g := True ∧ True ∧ True ∧ True ∧ True) (by with_unfolding_all rfl) ⟨trivial, trivial, trivial, trivial, trivial⟩ ?_
          cases h
          exact am_ev_ret 0 0 0 rfl .boolean rfl am_n0 rfl
def fm_setResult (fl : Nat) (H : cH) (B : cB) (p1 : Int32) : Option (Int32 × cH × cB) :=
  (fm_copy fl B (2 : Int32) p1).bind fun z1 =>
  match z1 with
  | (B_1) =>
  match B_1 with
  | (br_1, bl_1) =>
  if (p1 < 0 ∨ 96 ≤ (p1).toNatClampNeg) then none else
  some ((bl_1 (p1).toNatClampNeg), ((1 : Int32)), B_1)
set_option maxHeartbeats 4000000 in
set_option maxRecDepth 100000 in
theorem ok_fm_setResult {fl : Nat} {N : cN} {C : cC} {E : cE} {F : cF} {P : cP} {Q : cQ} {T : cT} {G : cG} {U : cU} {H : cH} {B : cB} {O : cO} {J : cJ} {V : cV} {Y : cY} {Z : cZ} {O9 : cO9} {k n : Nat} {p1 : Int32} {rv : Int32} {H' : cH} {B' : cB} (h : fm_setResult fl H B p1 = some (rv, H', B')) (D : Nat) (hD : 3 ≤ D) : am_Call D 112 [.ref 19, .int p1] (W9 N C E F P Q T G U H B O J V Y Z O9) k n (.inl (some (.int rv)), W9 N C E F P Q T G U H' B' O J V Y Z O9, k, n) := by
  unfold fm_setResult at h
  obtain ⟨D, rfl⟩ : ∃ D', D = D' + 1 := ⟨D - 1, by omega⟩
  have hD : 2 ≤ D := by omega
  refine am_call_run (by decide) (by decide) rfl (Nat.le_of_ble_eq_true rfl) (by decide) (L := [(0, .ref 19), (1, .int p1)]) rfl ?_
  refine am_ev_st 3 (f' := (3, [(0, .ref 19), (1, .int p1)], [.int p1, .int (2 : Int32), .ref 19], (W9 N C E F P Q T G U H B O J V Y Z O9), k, n)) (g := True ∧ True ∧ True ∧ True) (by with_unfolding_all rfl) ⟨trivial, trivial, trivial, trivial⟩ ?_
  replace h := Option.bind_eq_some_iff.mp h
  obtain ⟨B_1, hc1, h⟩ := h
  try dsimp only at h
  refine am_ev_call (.invokevirtual 144) 85 4 831 [.ref 19, .int (2 : Int32), .int p1] [] rfl rfl rfl rfl (ok_fm_copy hc1 D (by omega)) rfl ?_
  obtain ⟨br_1, bl_1⟩ := B_1
  try dsimp only at h
  by_cases g2 : (p1 < 0 ∨ 96 ≤ (p1).toNatClampNeg)
  · rw [if_pos g2] at h; cases h
  rw [if_neg g2] at h
  refine am_ev_st 7 (f' := (17, [(0, .ref 19), (1, .int p1)], [.int (bl_1 (p1).toNatClampNeg)], (W9 N C E F P Q T G U ((1 : Int32)) (br_1, bl_1) O J V Y Z O9), k, n)) (g := True ∧ True ∧ True ∧ True ∧ True ∧ True ∧ vp_in (p1) 96 ∧ True) (by with_unfolding_all rfl) ⟨trivial, trivial, trivial, trivial, trivial, trivial, g2, trivial⟩ ?_
  cases h
  exact am_ev_ret 0 0 0 rfl .int rfl rfl rfl
def fm_fail (U : cU) (p1 : Int32) : Option (Int32 × cU) :=
  some ((0 : Int32), p1)
set_option maxHeartbeats 4000000 in
set_option maxRecDepth 100000 in
theorem ok_fm_fail  {N : cN} {C : cC} {E : cE} {F : cF} {P : cP} {Q : cQ} {T : cT} {G : cG} {U : cU} {H : cH} {B : cB} {O : cO} {J : cJ} {V : cV} {Y : cY} {Z : cZ} {O9 : cO9} {k n : Nat} {p1 : Int32} {rv : Int32} {U' : cU} (h : fm_fail U p1 = some (rv, U')) (D : Nat) (hD : 1 ≤ D) : am_Call D 78 [.ref 19, .int p1] (W9 N C E F P Q T G U H B O J V Y Z O9) k n (.inl (some (.int rv)), W9 N C E F P Q T G U' H B O J V Y Z O9, k, n) := by
  unfold fm_fail at h
  obtain ⟨D, rfl⟩ : ∃ D', D = D' + 1 := ⟨D - 1, by omega⟩
  have hD : 0 ≤ D := by omega
  refine am_call_run (by decide) (by decide) rfl (Nat.le_of_ble_eq_true rfl) (by decide) (L := [(0, .ref 19), (1, .int p1)]) rfl ?_
  refine am_ev_st 4 (f' := (6, [(0, .ref 19), (1, .int p1)], [.int (0 : Int32)], (W9 N C E F P Q T G p1 H B O J V Y Z O9), k, n)) (g := True ∧ True ∧ True ∧ True ∧ True) (by with_unfolding_all rfl) ⟨trivial, trivial, trivial, trivial, trivial⟩ ?_
  cases h
  exact am_ev_ret 0 0 0 rfl .int rfl rfl rfl
def fm_infer (fl : Nat) (T : cT) (G : cG) (U : cU) (H : cH) (B : cB) (O : cO) (J : cJ) (V : cV) (Y : cY) (Z : cZ) (p1 p2 : Int32) : Option (Int32 × cU × cH × cB × cO × cJ × cV × cY × cZ) :=
  (fm_starts T U V p1 p1 p2).bind fun z1 =>
  match z1 with
  | (r1, U_1, V_1) =>
  if (am_bz r1) ≠ 0 then
  ((fm_load fl T B J (63 : Int32) p1).bind fun z3 =>
  match z3 with
  | (B_3, J_3) =>
  (fm_toType fl G B_3 O J_3 V_1 Y Z (63 : Int32)).bind fun z4 =>
  match z4 with
  | (B_4, O_4, J_4, V_4, Y_4, Z_4) =>
  match V_4 with
  | (vf_4, vu_4, vx_4) =>
  if vx_4 ≠ 0 then
  ((fm_fail U_1 vx_4).bind fun z6 =>
  match z6 with
  | (r6, U_6) =>
  some (r6, U_6, H, B_4, O_4, J_4, V_4, Y_4, Z_4))
  else
  (fm_setResult fl H B_4 (63 : Int32)).bind fun z7 =>
  match z7 with
  | (r7, H_7, B_7) =>
  some (r7, U_1, H_7, B_7, O_4, J_4, V_4, Y_4, Z_4))
  else
  some ((0 : Int32), U_1, H, B, O, J, V_1, Y, Z)
set_option maxHeartbeats 4000000 in
set_option maxRecDepth 100000 in
theorem ok_fm_infer {fl : Nat} {N : cN} {C : cC} {E : cE} {F : cF} {P : cP} {Q : cQ} {T : cT} {G : cG} {U : cU} {H : cH} {B : cB} {O : cO} {J : cJ} {V : cV} {Y : cY} {Z : cZ} {O9 : cO9} {k n : Nat} {p1 p2 : Int32} {rv : Int32} {U' : cU} {H' : cH} {B' : cB} {O' : cO} {J' : cJ} {V' : cV} {Y' : cY} {Z' : cZ} (h : fm_infer fl T G U H B O J V Y Z p1 p2 = some (rv, U', H', B', O', J', V', Y', Z')) (D : Nat) (hD : 8 ≤ D) : am_Call D 113 [.ref 19, .int p1, .int p2] (W9 N C E F P Q T G U H B O J V Y Z O9) k n (.inl (some (.int rv)), W9 N C E F P Q T G U' H' B' O' J' V' Y' Z' O9, k, n) := by
  unfold fm_infer at h
  obtain ⟨D, rfl⟩ : ∃ D', D = D' + 1 := ⟨D - 1, by omega⟩
  have hD : 7 ≤ D := by omega
  refine am_call_run (by decide) (by decide) rfl (Nat.le_of_ble_eq_true rfl) (by decide) (L := [(0, .ref 19), (1, .int p1), (2, .int p2)]) rfl ?_
  refine am_ev_st 4 (f' := (4, [(0, .ref 19), (1, .int p1), (2, .int p2)], [.int p2, .int p1, .int p1, .ref 19], (W9 N C E F P Q T G U H B O J V Y Z O9), k, n)) (g := True ∧ True ∧ True ∧ True ∧ True) (by with_unfolding_all rfl) ⟨trivial, trivial, trivial, trivial, trivial⟩ ?_
  replace h := Option.bind_eq_some_iff.mp h
  obtain ⟨⟨r1, U_1, V_1⟩, hc1, h⟩ := h
  try dsimp only at h
  refine am_ev_call (.invokevirtual 199) 111 6 804 [.ref 19, .int p1, .int p1, .int p2] [] rfl rfl rfl rfl (ok_fm_starts hc1 D (by omega)) rfl ?_
  refine am_ev_st 1 (f' := am_br ((am_bz r1) ≠ 0) 12 7 [(0, .ref 19), (1, .int p1), (2, .int p2)] [] (W9 N C E F P Q T G U_1 H B O J V_1 Y Z O9) k n) (g := True ∧ True) (by with_unfolding_all rfl) ⟨trivial, trivial⟩ ?_
  by_cases c2 : (am_bz r1) ≠ 0
  · rw [if_pos c2] at h
    refine am_ev_pos c2 ?_
    refine am_ev_st 3 (f' := (16, [(0, .ref 19), (1, .int p1), (2, .int p2)], [.int p1, .int (63 : Int32), .ref 19], (W9 N C E F P Q T G U_1 H B O J V_1 Y Z O9), k, n)) (g := True ∧ True ∧ True ∧ True) (by with_unfolding_all rfl) ⟨trivial, trivial, trivial, trivial⟩ ?_
    replace h := Option.bind_eq_some_iff.mp h
    obtain ⟨⟨B_3, J_3⟩, hc3, h⟩ := h
    try dsimp only at h
    refine am_ev_call (.invokevirtual 203) 110 4 808 [.ref 19, .int (63 : Int32), .int p1] [] rfl rfl rfl rfl (ok_fm_load hc3 D (by omega)) rfl ?_
    refine am_ev_st 2 (f' := (22, [(0, .ref 19), (1, .int p1), (2, .int p2)], [.int (63 : Int32), .ref 19], (W9 N C E F P Q T G U_1 H B_3 O J_3 V_1 Y Z O9), k, n)) (g := True ∧ True ∧ True) (by with_unfolding_all rfl) ⟨trivial, trivial, trivial⟩ ?_
    replace h := Option.bind_eq_some_iff.mp h
    obtain ⟨⟨B_4, O_4, J_4, V_4, Y_4, Z_4⟩, hc4, h⟩ := h
    try dsimp only at h
    refine am_ev_call (.invokevirtual 206) 105 2 812 [.ref 19, .int (63 : Int32)] [] rfl rfl rfl rfl (ok_fm_toType hc4 D (by omega)) rfl ?_
    obtain ⟨vf_4, vu_4, vx_4⟩ := V_4
    try dsimp only at h
    refine am_ev_st 3 (f' := am_br (vx_4 ≠ 0) 41 29 [(0, .ref 19), (1, .int p1), (2, .int p2)] [] (W9 N C E F P Q T G U_1 H B_4 O_4 J_4 (vf_4, vu_4, vx_4) Y_4 Z_4 O9) k n) (g := True ∧ True ∧ True ∧ True) (by with_unfolding_all rfl) ⟨trivial, trivial, trivial, trivial⟩ ?_
    by_cases c5 : vx_4 ≠ 0
    · rw [if_pos c5] at h
      refine am_ev_pos c5 ?_
      refine am_ev_st 3 (f' := (46, [(0, .ref 19), (1, .int p1), (2, .int p2)], [.int vx_4, .ref 19], (W9 N C E F P Q T G U_1 H B_4 O_4 J_4 (vf_4, vu_4, vx_4) Y_4 Z_4 O9), k, n)) (g := True ∧ True ∧ True ∧ True) (by with_unfolding_all rfl) ⟨trivial, trivial, trivial, trivial⟩ ?_
      replace h := Option.bind_eq_some_iff.mp h
      obtain ⟨⟨r6, U_6⟩, hc6, h⟩ := h
      try dsimp only at h
      refine am_ev_call (.invokevirtual 212) 78 2 921 [.ref 19, .int vx_4] [] rfl rfl rfl rfl (ok_fm_fail hc6 D (by omega)) rfl ?_
      cases h
      exact am_ev_ret 0 0 0 rfl .int rfl rfl rfl
    · rw [if_neg c5] at h
      refine am_ev_neg c5 ?_
      refine am_ev_st 2 (f' := (35, [(0, .ref 19), (1, .int p1), (2, .int p2)], [.int (63 : Int32), .ref 19], (W9 N C E F P Q T G U_1 H B_4 O_4 J_4 (vf_4, vu_4, vx_4) Y_4 Z_4 O9), k, n)) (g := True ∧ True ∧ True) (by with_unfolding_all rfl) ⟨trivial, trivial, trivial⟩ ?_
      replace h := Option.bind_eq_some_iff.mp h
      obtain ⟨⟨r7, H_7, B_7⟩, hc7, h⟩ := h
      try dsimp only at h
      refine am_ev_call (.invokevirtual 209) 112 2 917 [.ref 19, .int (63 : Int32)] [] rfl rfl rfl rfl (ok_fm_setResult hc7 D (by omega)) rfl ?_
      refine am_ev_st 1 (f' := (49, [(0, .ref 19), (1, .int p1), (2, .int p2)], [.int r7], (W9 N C E F P Q T G U_1 H_7 B_7 O_4 J_4 (vf_4, vu_4, vx_4) Y_4 Z_4 O9), k, n)) (g := True ∧ True) (by with_unfolding_all rfl) ⟨trivial, trivial⟩ ?_
      cases h
      exact am_ev_ret 0 0 0 rfl .int rfl rfl rfl
  · rw [if_neg c2] at h
    refine am_ev_neg c2 ?_
    refine am_ev_st 1 (f' := (11, [(0, .ref 19), (1, .int p1), (2, .int p2)], [.int (0 : Int32)], (W9 N C E F P Q T G U_1 H B O J V_1 Y Z O9), k, n)) (g := True ∧ True) (by with_unfolding_all rfl) ⟨trivial, trivial⟩ ?_
    cases h
    exact am_ev_ret 0 0 0 rfl .int rfl rfl rfl
def fm_reduce (fl : Nat) (T : cT) (G : cG) (U : cU) (H : cH) (B : cB) (O : cO) (J : cJ) (V : cV) (p1 p2 : Int32) : Option (Int32 × cU × cH × cB × cO × cJ × cV) :=
  (fm_starts T U V p1 p1 p2).bind fun z1 =>
  match z1 with
  | (r1, U_1, V_1) =>
  if (am_bz r1) ≠ 0 then
  ((fm_load fl T B J (63 : Int32) p1).bind fun z3 =>
  match z3 with
  | (B_3, J_3) =>
  (fm_toHead fl G B_3 O J_3 V_1 (63 : Int32)).bind fun z4 =>
  match z4 with
  | (B_4, O_4, J_4, V_4) =>
  match V_4 with
  | (vf_4, vu_4, vx_4) =>
  if vx_4 ≠ 0 then
  ((fm_fail U_1 (2 : Int32)).bind fun z6 =>
  match z6 with
  | (r6, U_6) =>
  some (r6, U_6, H, B_4, O_4, J_4, V_4))
  else
  (fm_setResult fl H B_4 (63 : Int32)).bind fun z7 =>
  match z7 with
  | (r7, H_7, B_7) =>
  some (r7, U_1, H_7, B_7, O_4, J_4, V_4))
  else
  some ((0 : Int32), U_1, H, B, O, J, V_1)
set_option maxHeartbeats 4000000 in
set_option maxRecDepth 100000 in
theorem ok_fm_reduce {fl : Nat} {N : cN} {C : cC} {E : cE} {F : cF} {P : cP} {Q : cQ} {T : cT} {G : cG} {U : cU} {H : cH} {B : cB} {O : cO} {J : cJ} {V : cV} {Y : cY} {Z : cZ} {O9 : cO9} {k n : Nat} {p1 p2 : Int32} {rv : Int32} {U' : cU} {H' : cH} {B' : cB} {O' : cO} {J' : cJ} {V' : cV} (h : fm_reduce fl T G U H B O J V p1 p2 = some (rv, U', H', B', O', J', V')) (D : Nat) (hD : 5 ≤ D) : am_Call D 114 [.ref 19, .int p1, .int p2] (W9 N C E F P Q T G U H B O J V Y Z O9) k n (.inl (some (.int rv)), W9 N C E F P Q T G U' H' B' O' J' V' Y Z O9, k, n) := by
  unfold fm_reduce at h
  obtain ⟨D, rfl⟩ : ∃ D', D = D' + 1 := ⟨D - 1, by omega⟩
  have hD : 4 ≤ D := by omega
  refine am_call_run (by decide) (by decide) rfl (Nat.le_of_ble_eq_true rfl) (by decide) (L := [(0, .ref 19), (1, .int p1), (2, .int p2)]) rfl ?_
  refine am_ev_st 4 (f' := (4, [(0, .ref 19), (1, .int p1), (2, .int p2)], [.int p2, .int p1, .int p1, .ref 19], (W9 N C E F P Q T G U H B O J V Y Z O9), k, n)) (g := True ∧ True ∧ True ∧ True ∧ True) (by with_unfolding_all rfl) ⟨trivial, trivial, trivial, trivial, trivial⟩ ?_
  replace h := Option.bind_eq_some_iff.mp h
  obtain ⟨⟨r1, U_1, V_1⟩, hc1, h⟩ := h
  try dsimp only at h
  refine am_ev_call (.invokevirtual 199) 111 6 804 [.ref 19, .int p1, .int p1, .int p2] [] rfl rfl rfl rfl (ok_fm_starts hc1 D (by omega)) rfl ?_
  refine am_ev_st 1 (f' := am_br ((am_bz r1) ≠ 0) 12 7 [(0, .ref 19), (1, .int p1), (2, .int p2)] [] (W9 N C E F P Q T G U_1 H B O J V_1 Y Z O9) k n) (g := True ∧ True) (by with_unfolding_all rfl) ⟨trivial, trivial⟩ ?_
  by_cases c2 : (am_bz r1) ≠ 0
  · rw [if_pos c2] at h
    refine am_ev_pos c2 ?_
    refine am_ev_st 3 (f' := (16, [(0, .ref 19), (1, .int p1), (2, .int p2)], [.int p1, .int (63 : Int32), .ref 19], (W9 N C E F P Q T G U_1 H B O J V_1 Y Z O9), k, n)) (g := True ∧ True ∧ True ∧ True) (by with_unfolding_all rfl) ⟨trivial, trivial, trivial, trivial⟩ ?_
    replace h := Option.bind_eq_some_iff.mp h
    obtain ⟨⟨B_3, J_3⟩, hc3, h⟩ := h
    try dsimp only at h
    refine am_ev_call (.invokevirtual 203) 110 4 808 [.ref 19, .int (63 : Int32), .int p1] [] rfl rfl rfl rfl (ok_fm_load hc3 D (by omega)) rfl ?_
    refine am_ev_st 2 (f' := (22, [(0, .ref 19), (1, .int p1), (2, .int p2)], [.int (63 : Int32), .ref 19], (W9 N C E F P Q T G U_1 H B_3 O J_3 V_1 Y Z O9), k, n)) (g := True ∧ True ∧ True) (by with_unfolding_all rfl) ⟨trivial, trivial, trivial⟩ ?_
    replace h := Option.bind_eq_some_iff.mp h
    obtain ⟨⟨B_4, O_4, J_4, V_4⟩, hc4, h⟩ := h
    try dsimp only at h
    refine am_ev_call (.invokevirtual 134) 95 2 865 [.ref 19, .int (63 : Int32)] [] rfl rfl rfl rfl (ok_fm_toHead hc4 D (by omega)) rfl ?_
    obtain ⟨vf_4, vu_4, vx_4⟩ := V_4
    try dsimp only at h
    refine am_ev_st 3 (f' := am_br (vx_4 ≠ 0) 41 29 [(0, .ref 19), (1, .int p1), (2, .int p2)] [] (W9 N C E F P Q T G U_1 H B_4 O_4 J_4 (vf_4, vu_4, vx_4) Y Z O9) k n) (g := True ∧ True ∧ True ∧ True) (by with_unfolding_all rfl) ⟨trivial, trivial, trivial, trivial⟩ ?_
    by_cases c5 : vx_4 ≠ 0
    · rw [if_pos c5] at h
      refine am_ev_pos c5 ?_
      refine am_ev_st 2 (f' := (43, [(0, .ref 19), (1, .int p1), (2, .int p2)], [.int (2 : Int32), .ref 19], (W9 N C E F P Q T G U_1 H B_4 O_4 J_4 (vf_4, vu_4, vx_4) Y Z O9), k, n)) (g := True ∧ True ∧ True) (by with_unfolding_all rfl) ⟨trivial, trivial, trivial⟩ ?_
      replace h := Option.bind_eq_some_iff.mp h
      obtain ⟨⟨r6, U_6⟩, hc6, h⟩ := h
      try dsimp only at h
      refine am_ev_call (.invokevirtual 212) 78 2 921 [.ref 19, .int (2 : Int32)] [] rfl rfl rfl rfl (ok_fm_fail hc6 D (by omega)) rfl ?_
      cases h
      exact am_ev_ret 0 0 0 rfl .int rfl rfl rfl
    · rw [if_neg c5] at h
      refine am_ev_neg c5 ?_
      refine am_ev_st 2 (f' := (35, [(0, .ref 19), (1, .int p1), (2, .int p2)], [.int (63 : Int32), .ref 19], (W9 N C E F P Q T G U_1 H B_4 O_4 J_4 (vf_4, vu_4, vx_4) Y Z O9), k, n)) (g := True ∧ True ∧ True) (by with_unfolding_all rfl) ⟨trivial, trivial, trivial⟩ ?_
      replace h := Option.bind_eq_some_iff.mp h
      obtain ⟨⟨r7, H_7, B_7⟩, hc7, h⟩ := h
      try dsimp only at h
      refine am_ev_call (.invokevirtual 209) 112 2 917 [.ref 19, .int (63 : Int32)] [] rfl rfl rfl rfl (ok_fm_setResult hc7 D (by omega)) rfl ?_
      refine am_ev_st 1 (f' := (46, [(0, .ref 19), (1, .int p1), (2, .int p2)], [.int r7], (W9 N C E F P Q T G U_1 H_7 B_7 O_4 J_4 (vf_4, vu_4, vx_4) Y Z O9), k, n)) (g := True ∧ True) (by with_unfolding_all rfl) ⟨trivial, trivial⟩ ?_
      cases h
      exact am_ev_ret 0 0 0 rfl .int rfl rfl rfl
  · rw [if_neg c2] at h
    refine am_ev_neg c2 ?_
    refine am_ev_st 1 (f' := (11, [(0, .ref 19), (1, .int p1), (2, .int p2)], [.int (0 : Int32)], (W9 N C E F P Q T G U_1 H B O J V_1 Y Z O9), k, n)) (g := True ∧ True) (by with_unfolding_all rfl) ⟨trivial, trivial⟩ ?_
    cases h
    exact am_ev_ret 0 0 0 rfl .int rfl rfl rfl
def fm_same (fl : Nat) (T : cT) (G : cG) (U : cU) (B : cB) (O : cO) (J : cJ) (V : cV) (Z : cZ) (p1 p2 p3 : Int32) : Option (Bool × cU × cB × cO × cJ × cV × cZ) :=
  (fm_starts T U V p1 p2 p3).bind fun z1 =>
  match z1 with
  | (r1, U_1, V_1) =>
  if (am_bz r1) ≠ 0 then
  ((fm_load fl T B J (0 : Int32) p1).bind fun z3 =>
  match z3 with
  | (B_3, J_3) =>
  (fm_load fl T B_3 J_3 (1 : Int32) p2).bind fun z4 =>
  match z4 with
  | (B_4, J_4) =>
  (fm_areSame fl G B_4 O J_4 V_1 Z).bind fun z5 =>
  match z5 with
  | (r5, B_5, O_5, J_5, V_5, Z_5) =>
  match V_5 with
  | (vf_5, vu_5, vx_5) =>
  if vx_5 = 0 then
  (if (am_bz r5) = 0 then
  (some (false, U_1, B_5, O_5, J_5, V_5, Z_5))
  else
  if vx_5 ≠ 0 then
  (some (false, U_1, B_5, O_5, J_5, V_5, Z_5))
  else
  some (true, U_1, B_5, O_5, J_5, V_5, Z_5))
  else
  if (am_bz r5) = 0 then
  (some (false, ((2 : Int32)), B_5, O_5, J_5, V_5, Z_5))
  else
  if vx_5 ≠ 0 then
  (some (false, ((2 : Int32)), B_5, O_5, J_5, V_5, Z_5))
  else
  some (true, ((2 : Int32)), B_5, O_5, J_5, V_5, Z_5))
  else
  some (false, U_1, B, O, J, V_1, Z)
set_option maxHeartbeats 4000000 in
set_option maxRecDepth 100000 in
theorem ok_fm_same {fl : Nat} {N : cN} {C : cC} {E : cE} {F : cF} {P : cP} {Q : cQ} {T : cT} {G : cG} {U : cU} {H : cH} {B : cB} {O : cO} {J : cJ} {V : cV} {Y : cY} {Z : cZ} {O9 : cO9} {k n : Nat} {p1 p2 p3 : Int32} {rv : Bool} {U' : cU} {B' : cB} {O' : cO} {J' : cJ} {V' : cV} {Z' : cZ} (h : fm_same fl T G U B O J V Z p1 p2 p3 = some (rv, U', B', O', J', V', Z')) (D : Nat) (hD : 6 ≤ D) : am_Call D 115 [.ref 19, .int p1, .int p2, .int p3] (W9 N C E F P Q T G U H B O J V Y Z O9) k n (.inl (some (.int (am_bz rv))), W9 N C E F P Q T G U' H B' O' J' V' Y Z' O9, k, n) := by
  unfold fm_same at h
  obtain ⟨D, rfl⟩ : ∃ D', D = D' + 1 := ⟨D - 1, by omega⟩
  have hD : 5 ≤ D := by omega
  refine am_call_run (by decide) (by decide) rfl (Nat.le_of_ble_eq_true rfl) (by decide) (L := [(0, .ref 19), (1, .int p1), (2, .int p2), (3, .int p3)]) rfl ?_
  refine am_ev_st 4 (f' := (4, [(0, .ref 19), (1, .int p1), (2, .int p2), (3, .int p3)], [.int p3, .int p2, .int p1, .ref 19], (W9 N C E F P Q T G U H B O J V Y Z O9), k, n)) (g := True ∧ True ∧ True ∧ True ∧ True) (by with_unfolding_all rfl) ⟨trivial, trivial, trivial, trivial, trivial⟩ ?_
  replace h := Option.bind_eq_some_iff.mp h
  obtain ⟨⟨r1, U_1, V_1⟩, hc1, h⟩ := h
  try dsimp only at h
  refine am_ev_call (.invokevirtual 199) 111 6 804 [.ref 19, .int p1, .int p2, .int p3] [] rfl rfl rfl rfl (ok_fm_starts hc1 D (by omega)) rfl ?_
  refine am_ev_st 1 (f' := am_br ((am_bz r1) ≠ 0) 12 7 [(0, .ref 19), (1, .int p1), (2, .int p2), (3, .int p3)] [] (W9 N C E F P Q T G U_1 H B O J V_1 Y Z O9) k n) (g := True ∧ True) (by with_unfolding_all rfl) ⟨trivial, trivial⟩ ?_
  by_cases c2 : (am_bz r1) ≠ 0
  · rw [if_pos c2] at h
    refine am_ev_pos c2 ?_
    refine am_ev_st 3 (f' := (15, [(0, .ref 19), (1, .int p1), (2, .int p2), (3, .int p3)], [.int p1, .int (0 : Int32), .ref 19], (W9 N C E F P Q T G U_1 H B O J V_1 Y Z O9), k, n)) (g := True ∧ True ∧ True ∧ True) (by with_unfolding_all rfl) ⟨trivial, trivial, trivial, trivial⟩ ?_
    replace h := Option.bind_eq_some_iff.mp h
    obtain ⟨⟨B_3, J_3⟩, hc3, h⟩ := h
    try dsimp only at h
    refine am_ev_call (.invokevirtual 203) 110 4 808 [.ref 19, .int (0 : Int32), .int p1] [] rfl rfl rfl rfl (ok_fm_load hc3 D (by omega)) rfl ?_
    refine am_ev_st 3 (f' := (21, [(0, .ref 19), (1, .int p1), (2, .int p2), (3, .int p3)], [.int p2, .int (1 : Int32), .ref 19], (W9 N C E F P Q T G U_1 H B_3 O J_3 V_1 Y Z O9), k, n)) (g := True ∧ True ∧ True ∧ True) (by with_unfolding_all rfl) ⟨trivial, trivial, trivial, trivial⟩ ?_
    replace h := Option.bind_eq_some_iff.mp h
    obtain ⟨⟨B_4, J_4⟩, hc4, h⟩ := h
    try dsimp only at h
    refine am_ev_call (.invokevirtual 203) 110 4 808 [.ref 19, .int (1 : Int32), .int p2] [] rfl rfl rfl rfl (ok_fm_load hc4 D (by omega)) rfl ?_
    refine am_ev_st 1 (f' := (25, [(0, .ref 19), (1, .int p1), (2, .int p2), (3, .int p3)], [.ref 19], (W9 N C E F P Q T G U_1 H B_4 O J_4 V_1 Y Z O9), k, n)) (g := True ∧ True) (by with_unfolding_all rfl) ⟨trivial, trivial⟩ ?_
    replace h := Option.bind_eq_some_iff.mp h
    obtain ⟨⟨r5, B_5, O_5, J_5, V_5, Z_5⟩, hc5, h⟩ := h
    try dsimp only at h
    refine am_ev_call (.invokevirtual 174) 98 0 905 [.ref 19] [] rfl rfl rfl rfl (ok_fm_areSame hc5 D (by omega)) rfl ?_
    obtain ⟨vf_5, vu_5, vx_5⟩ := V_5
    try dsimp only at h
    refine am_ev_st 4 (f' := am_br (vx_5 = 0) 42 34 [(4, .int (am_bz r5)), (0, .ref 19), (1, .int p1), (2, .int p2), (3, .int p3)] [] (W9 N C E F P Q T G U_1 H B_5 O_5 J_5 (vf_5, vu_5, vx_5) Y Z_5 O9) k n) (g := True ∧ True ∧ True ∧ True ∧ True) (by with_unfolding_all rfl) ⟨trivial, trivial, trivial, trivial, trivial⟩ ?_
    by_cases c6 : vx_5 = 0
    · rw [if_pos c6] at h
      refine am_ev_pos c6 ?_
      refine am_ev_st 2 (f' := am_br ((am_bz r5) = 0) 58 44 [(4, .int (am_bz r5)), (0, .ref 19), (1, .int p1), (2, .int p2), (3, .int p3)] [] (W9 N C E F P Q T G U_1 H B_5 O_5 J_5 (vf_5, vu_5, vx_5) Y Z_5 O9) k n) (g := True ∧ True ∧ True) (by with_unfolding_all rfl) ⟨trivial, trivial, trivial⟩ ?_
      by_cases c7 : (am_bz r5) = 0
      · rw [if_pos c7] at h
        refine am_ev_pos c7 ?_
        refine am_ev_st 1 (f' := (59, [(4, .int (am_bz r5)), (0, .ref 19), (1, .int p1), (2, .int p2), (3, .int p3)], [.int (0 : Int32)], (W9 N C E F P Q T G U_1 H B_5 O_5 J_5 (vf_5, vu_5, vx_5) Y Z_5 O9), k, n)) (g := True ∧ True) (by with_unfolding_all rfl) ⟨trivial, trivial⟩ ?_
        cases h
        exact am_ev_ret 0 0 0 rfl .boolean rfl am_n0 rfl
      · rw [if_neg c7] at h
        refine am_ev_neg c7 ?_
        refine am_ev_st 3 (f' := am_br (vx_5 ≠ 0) 58 51 [(4, .int (am_bz r5)), (0, .ref 19), (1, .int p1), (2, .int p2), (3, .int p3)] [] (W9 N C E F P Q T G U_1 H B_5 O_5 J_5 (vf_5, vu_5, vx_5) Y Z_5 O9) k n) (g := True ∧ True ∧ True ∧ True) (by with_unfolding_all rfl) ⟨trivial, trivial, trivial, trivial⟩ ?_
        by_cases c8 : vx_5 ≠ 0
        · rw [if_pos c8] at h
          refine am_ev_pos c8 ?_
          refine am_ev_st 1 (f' := (59, [(4, .int (am_bz r5)), (0, .ref 19), (1, .int p1), (2, .int p2), (3, .int p3)], [.int (0 : Int32)], (W9 N C E F P Q T G U_1 H B_5 O_5 J_5 (vf_5, vu_5, vx_5) Y Z_5 O9), k, n)) (g := True ∧ True) (by with_unfolding_all rfl) ⟨trivial, trivial⟩ ?_
          cases h
          exact am_ev_ret 0 0 0 rfl .boolean rfl am_n0 rfl
        · rw [if_neg c8] at h
          refine am_ev_neg c8 ?_
          refine am_ev_st 2 (f' := (59, [(4, .int (am_bz r5)), (0, .ref 19), (1, .int p1), (2, .int p2), (3, .int p3)], [.int (1 : Int32)], (W9 N C E F P Q T G U_1 H B_5 O_5 J_5 (vf_5, vu_5, vx_5) Y Z_5 O9), k, n)) (g := True ∧ True ∧ True) (by with_unfolding_all rfl) ⟨trivial, trivial, trivial⟩ ?_
          cases h
          exact am_ev_ret 0 0 0 rfl .boolean rfl am_n1 rfl
    · rw [if_neg c6] at h
      refine am_ev_neg c6 ?_
      refine am_ev_st 5 (f' := am_br ((am_bz r5) = 0) 58 44 [(4, .int (am_bz r5)), (0, .ref 19), (1, .int p1), (2, .int p2), (3, .int p3)] [] (W9 N C E F P Q T G ((2 : Int32)) H B_5 O_5 J_5 (vf_5, vu_5, vx_5) Y Z_5 O9) k n) (g := True ∧ True ∧ True ∧ True ∧ True ∧ True) (by with_unfolding_all rfl) ⟨trivial, trivial, trivial, trivial, trivial, trivial⟩ ?_
      by_cases c9 : (am_bz r5) = 0
      · rw [if_pos c9] at h
        refine am_ev_pos c9 ?_
        refine am_ev_st 1 (f' := (59, [(4, .int (am_bz r5)), (0, .ref 19), (1, .int p1), (2, .int p2), (3, .int p3)], [.int (0 : Int32)], (W9 N C E F P Q T G ((2 : Int32)) H B_5 O_5 J_5 (vf_5, vu_5, vx_5) Y Z_5 O9), k, n)) (g := True ∧ True) (by with_unfolding_all rfl) ⟨trivial, trivial⟩ ?_
        cases h
        exact am_ev_ret 0 0 0 rfl .boolean rfl am_n0 rfl
      · rw [if_neg c9] at h
        refine am_ev_neg c9 ?_
        refine am_ev_st 3 (f' := am_br (vx_5 ≠ 0) 58 51 [(4, .int (am_bz r5)), (0, .ref 19), (1, .int p1), (2, .int p2), (3, .int p3)] [] (W9 N C E F P Q T G ((2 : Int32)) H B_5 O_5 J_5 (vf_5, vu_5, vx_5) Y Z_5 O9) k n) (g := True ∧ True ∧ True ∧ True) (by with_unfolding_all rfl) ⟨trivial, trivial, trivial, trivial⟩ ?_
        by_cases c10 : vx_5 ≠ 0
        · rw [if_pos c10] at h
          refine am_ev_pos c10 ?_
          refine am_ev_st 1 (f' := (59, [(4, .int (am_bz r5)), (0, .ref 19), (1, .int p1), (2, .int p2), (3, .int p3)], [.int (0 : Int32)], (W9 N C E F P Q T G ((2 : Int32)) H B_5 O_5 J_5 (vf_5, vu_5, vx_5) Y Z_5 O9), k, n)) (g := True ∧ True) (by with_unfolding_all rfl) ⟨trivial, trivial⟩ ?_
          cases h
          exact am_ev_ret 0 0 0 rfl .boolean rfl am_n0 rfl
        · rw [if_neg c10] at h
          refine am_ev_neg c10 ?_
          refine am_ev_st 2 (f' := (59, [(4, .int (am_bz r5)), (0, .ref 19), (1, .int p1), (2, .int p2), (3, .int p3)], [.int (1 : Int32)], (W9 N C E F P Q T G ((2 : Int32)) H B_5 O_5 J_5 (vf_5, vu_5, vx_5) Y Z_5 O9), k, n)) (g := True ∧ True ∧ True) (by with_unfolding_all rfl) ⟨trivial, trivial, trivial⟩ ?_
          cases h
          exact am_ev_ret 0 0 0 rfl .boolean rfl am_n1 rfl
  · rw [if_neg c2] at h
    refine am_ev_neg c2 ?_
    refine am_ev_st 1 (f' := (11, [(0, .ref 19), (1, .int p1), (2, .int p2), (3, .int p3)], [.int (0 : Int32)], (W9 N C E F P Q T G U_1 H B O J V_1 Y Z O9), k, n)) (g := True ∧ True) (by with_unfolding_all rfl) ⟨trivial, trivial⟩ ?_
    cases h
    exact am_ev_ret 0 0 0 rfl .boolean rfl am_n0 rfl
def fm_check (fl : Nat) (T : cT) (G : cG) (U : cU) (B : cB) (O : cO) (J : cJ) (V : cV) (Y : cY) (Z : cZ) (p1 p2 p3 : Int32) : Option (Bool × cU × cB × cO × cJ × cV × cY × cZ) :=
  (fm_starts T U V p1 p2 p3).bind fun z1 =>
  match z1 with
  | (r1, U_1, V_1) =>
  if (am_bz r1) ≠ 0 then
  ((fm_load fl T B J (63 : Int32) p2).bind fun z3 =>
  match z3 with
  | (B_3, J_3) =>
  (fm_toType fl G B_3 O J_3 V_1 Y Z (63 : Int32)).bind fun z4 =>
  match z4 with
  | (B_4, O_4, J_4, V_4, Y_4, Z_4) =>
  match V_4 with
  | (vf_4, vu_4, vx_4) =>
  if vx_4 ≠ 0 then
  (if vx_4 ≠ 0 then
  (if vx_4 ≠ 0 then
  (if (0 : Int32) = 0 then
  (some (false, vx_4, B_4, O_4, J_4, V_4, Y_4, Z_4))
  else
  if vx_4 ≠ 0 then
  (some (false, vx_4, B_4, O_4, J_4, V_4, Y_4, Z_4))
  else
  some (true, vx_4, B_4, O_4, J_4, V_4, Y_4, Z_4))
  else
  (fm_copy fl B_4 (0 : Int32) (63 : Int32)).bind fun z10 =>
  match z10 with
  | (B_10) =>
  (fm_load fl T B_10 J_4 (1 : Int32) p2).bind fun z11 =>
  match z11 with
  | (B_11, J_11) =>
  (fm_areSame fl G B_11 O_4 J_11 V_4 Z_4).bind fun z12 =>
  match z12 with
  | (r12, B_12, O_12, J_12, V_12, Z_12) =>
  match V_12 with
  | (vf_12, vu_12, vx_12) =>
  if (am_bz r12) = 0 then
  (some (false, vx_12, B_12, O_12, J_12, V_12, Y_4, Z_12))
  else
  if vx_12 ≠ 0 then
  (some (false, vx_12, B_12, O_12, J_12, V_12, Y_4, Z_12))
  else
  some (true, vx_12, B_12, O_12, J_12, V_12, Y_4, Z_12))
  else
  (fm_load fl T B_4 J_4 (63 : Int32) p1).bind fun z15 =>
  match z15 with
  | (B_15, J_15) =>
  (fm_toType fl G B_15 O_4 J_15 V_4 Y_4 Z_4 (63 : Int32)).bind fun z16 =>
  match z16 with
  | (B_16, O_16, J_16, V_16, Y_16, Z_16) =>
  match V_16 with
  | (vf_16, vu_16, vx_16) =>
  if vx_16 ≠ 0 then
  (if (0 : Int32) = 0 then
  (some (false, vx_16, B_16, O_16, J_16, V_16, Y_16, Z_16))
  else
  if vx_16 ≠ 0 then
  (some (false, vx_16, B_16, O_16, J_16, V_16, Y_16, Z_16))
  else
  some (true, vx_16, B_16, O_16, J_16, V_16, Y_16, Z_16))
  else
  (fm_copy fl B_16 (0 : Int32) (63 : Int32)).bind fun z20 =>
  match z20 with
  | (B_20) =>
  (fm_load fl T B_20 J_16 (1 : Int32) p2).bind fun z21 =>
  match z21 with
  | (B_21, J_21) =>
  (fm_areSame fl G B_21 O_16 J_21 V_16 Z_16).bind fun z22 =>
  match z22 with
  | (r22, B_22, O_22, J_22, V_22, Z_22) =>
  match V_22 with
  | (vf_22, vu_22, vx_22) =>
  if (am_bz r22) = 0 then
  (some (false, vx_22, B_22, O_22, J_22, V_22, Y_16, Z_22))
  else
  if vx_22 ≠ 0 then
  (some (false, vx_22, B_22, O_22, J_22, V_22, Y_16, Z_22))
  else
  some (true, vx_22, B_22, O_22, J_22, V_22, Y_16, Z_22))
  else
  (fm_levelIn fl G B_4 O_4 J_4 V_4 (63 : Int32)).bind fun z25 =>
  match z25 with
  | (r25, B_25, O_25, J_25, V_25) =>
  match V_25 with
  | (vf_25, vu_25, vx_25) =>
  if vx_25 ≠ 0 then
  (if vx_25 ≠ 0 then
  (if (0 : Int32) = 0 then
  (some (false, vx_25, B_25, O_25, J_25, V_25, Y_4, Z_4))
  else
  if vx_25 ≠ 0 then
  (some (false, vx_25, B_25, O_25, J_25, V_25, Y_4, Z_4))
  else
  some (true, vx_25, B_25, O_25, J_25, V_25, Y_4, Z_4))
  else
  (fm_copy fl B_25 (0 : Int32) (63 : Int32)).bind fun z30 =>
  match z30 with
  | (B_30) =>
  (fm_load fl T B_30 J_25 (1 : Int32) p2).bind fun z31 =>
  match z31 with
  | (B_31, J_31) =>
  (fm_areSame fl G B_31 O_25 J_31 V_25 Z_4).bind fun z32 =>
  match z32 with
  | (r32, B_32, O_32, J_32, V_32, Z_32) =>
  match V_32 with
  | (vf_32, vu_32, vx_32) =>
  if (am_bz r32) = 0 then
  (some (false, vx_32, B_32, O_32, J_32, V_32, Y_4, Z_32))
  else
  if vx_32 ≠ 0 then
  (some (false, vx_32, B_32, O_32, J_32, V_32, Y_4, Z_32))
  else
  some (true, vx_32, B_32, O_32, J_32, V_32, Y_4, Z_32))
  else
  (fm_load fl T B_25 J_25 (63 : Int32) p1).bind fun z35 =>
  match z35 with
  | (B_35, J_35) =>
  (fm_toType fl G B_35 O_25 J_35 V_25 Y_4 Z_4 (63 : Int32)).bind fun z36 =>
  match z36 with
  | (B_36, O_36, J_36, V_36, Y_36, Z_36) =>
  match V_36 with
  | (vf_36, vu_36, vx_36) =>
  if vx_36 ≠ 0 then
  (if (0 : Int32) = 0 then
  (some (false, vx_36, B_36, O_36, J_36, V_36, Y_36, Z_36))
  else
  if vx_36 ≠ 0 then
  (some (false, vx_36, B_36, O_36, J_36, V_36, Y_36, Z_36))
  else
  some (true, vx_36, B_36, O_36, J_36, V_36, Y_36, Z_36))
  else
  (fm_copy fl B_36 (0 : Int32) (63 : Int32)).bind fun z40 =>
  match z40 with
  | (B_40) =>
  (fm_load fl T B_40 J_36 (1 : Int32) p2).bind fun z41 =>
  match z41 with
  | (B_41, J_41) =>
  (fm_areSame fl G B_41 O_36 J_41 V_36 Z_36).bind fun z42 =>
  match z42 with
  | (r42, B_42, O_42, J_42, V_42, Z_42) =>
  match V_42 with
  | (vf_42, vu_42, vx_42) =>
  if (am_bz r42) = 0 then
  (some (false, vx_42, B_42, O_42, J_42, V_42, Y_36, Z_42))
  else
  if vx_42 ≠ 0 then
  (some (false, vx_42, B_42, O_42, J_42, V_42, Y_36, Z_42))
  else
  some (true, vx_42, B_42, O_42, J_42, V_42, Y_36, Z_42))
  else
  some (false, U_1, B, O, J, V_1, Y, Z)
set_option maxHeartbeats 4000000 in
set_option maxRecDepth 100000 in
theorem ok_fm_check {fl : Nat} {N : cN} {C : cC} {E : cE} {F : cF} {P : cP} {Q : cQ} {T : cT} {G : cG} {U : cU} {H : cH} {B : cB} {O : cO} {J : cJ} {V : cV} {Y : cY} {Z : cZ} {O9 : cO9} {k n : Nat} {p1 p2 p3 : Int32} {rv : Bool} {U' : cU} {B' : cB} {O' : cO} {J' : cJ} {V' : cV} {Y' : cY} {Z' : cZ} (h : fm_check fl T G U B O J V Y Z p1 p2 p3 = some (rv, U', B', O', J', V', Y', Z')) (D : Nat) (hD : 8 ≤ D) : am_Call D 116 [.ref 19, .int p1, .int p2, .int p3] (W9 N C E F P Q T G U H B O J V Y Z O9) k n (.inl (some (.int (am_bz rv))), W9 N C E F P Q T G U' H B' O' J' V' Y' Z' O9, k, n) := by
  unfold fm_check at h
  obtain ⟨D, rfl⟩ : ∃ D', D = D' + 1 := ⟨D - 1, by omega⟩
  have hD : 7 ≤ D := by omega
  refine am_call_run (by decide) (by decide) rfl (Nat.le_of_ble_eq_true rfl) (by decide) (L := [(0, .ref 19), (1, .int p1), (2, .int p2), (3, .int p3)]) rfl ?_
  refine am_ev_st 4 (f' := (4, [(0, .ref 19), (1, .int p1), (2, .int p2), (3, .int p3)], [.int p3, .int p2, .int p1, .ref 19], (W9 N C E F P Q T G U H B O J V Y Z O9), k, n)) (g := True ∧ True ∧ True ∧ True ∧ True) (by with_unfolding_all rfl) ⟨trivial, trivial, trivial, trivial, trivial⟩ ?_
  replace h := Option.bind_eq_some_iff.mp h
  obtain ⟨⟨r1, U_1, V_1⟩, hc1, h⟩ := h
  try dsimp only at h
  refine am_ev_call (.invokevirtual 199) 111 6 804 [.ref 19, .int p1, .int p2, .int p3] [] rfl rfl rfl rfl (ok_fm_starts hc1 D (by omega)) rfl ?_
  refine am_ev_st 1 (f' := am_br ((am_bz r1) ≠ 0) 12 7 [(0, .ref 19), (1, .int p1), (2, .int p2), (3, .int p3)] [] (W9 N C E F P Q T G U_1 H B O J V_1 Y Z O9) k n) (g := True ∧ True) (by with_unfolding_all rfl) ⟨trivial, trivial⟩ ?_
  by_cases c2 : (am_bz r1) ≠ 0
  · rw [if_pos c2] at h
    refine am_ev_pos c2 ?_
    refine am_ev_st 3 (f' := (16, [(0, .ref 19), (1, .int p1), (2, .int p2), (3, .int p3)], [.int p2, .int (63 : Int32), .ref 19], (W9 N C E F P Q T G U_1 H B O J V_1 Y Z O9), k, n)) (g := True ∧ True ∧ True ∧ True) (by with_unfolding_all rfl) ⟨trivial, trivial, trivial, trivial⟩ ?_
    replace h := Option.bind_eq_some_iff.mp h
    obtain ⟨⟨B_3, J_3⟩, hc3, h⟩ := h
    try dsimp only at h
    refine am_ev_call (.invokevirtual 203) 110 4 808 [.ref 19, .int (63 : Int32), .int p2] [] rfl rfl rfl rfl (ok_fm_load hc3 D (by omega)) rfl ?_
    refine am_ev_st 2 (f' := (22, [(0, .ref 19), (1, .int p1), (2, .int p2), (3, .int p3)], [.int (63 : Int32), .ref 19], (W9 N C E F P Q T G U_1 H B_3 O J_3 V_1 Y Z O9), k, n)) (g := True ∧ True ∧ True) (by with_unfolding_all rfl) ⟨trivial, trivial, trivial⟩ ?_
    replace h := Option.bind_eq_some_iff.mp h
    obtain ⟨⟨B_4, O_4, J_4, V_4, Y_4, Z_4⟩, hc4, h⟩ := h
    try dsimp only at h
    refine am_ev_call (.invokevirtual 206) 105 2 812 [.ref 19, .int (63 : Int32)] [] rfl rfl rfl rfl (ok_fm_toType hc4 D (by omega)) rfl ?_
    obtain ⟨vf_4, vu_4, vx_4⟩ := V_4
    try dsimp only at h
    refine am_ev_st 3 (f' := am_br (vx_4 ≠ 0) 39 29 [(0, .ref 19), (1, .int p1), (2, .int p2), (3, .int p3)] [] (W9 N C E F P Q T G U_1 H B_4 O_4 J_4 (vf_4, vu_4, vx_4) Y_4 Z_4 O9) k n) (g := True ∧ True ∧ True ∧ True) (by with_unfolding_all rfl) ⟨trivial, trivial, trivial, trivial⟩ ?_
    by_cases c5 : vx_4 ≠ 0
    · rw [if_pos c5] at h
      refine am_ev_pos c5 ?_
      refine am_ev_st 3 (f' := am_br (vx_4 ≠ 0) 59 43 [(0, .ref 19), (1, .int p1), (2, .int p2), (3, .int p3)] [] (W9 N C E F P Q T G U_1 H B_4 O_4 J_4 (vf_4, vu_4, vx_4) Y_4 Z_4 O9) k n) (g := True ∧ True ∧ True ∧ True) (by with_unfolding_all rfl) ⟨trivial, trivial, trivial, trivial⟩ ?_
      by_cases c6 : vx_4 ≠ 0
      · rw [if_pos c6] at h
        refine am_ev_pos c6 ?_
        refine am_ev_st 5 (f' := am_br (vx_4 ≠ 0) 88 66 [(4, .int (0 : Int32)), (0, .ref 19), (1, .int p1), (2, .int p2), (3, .int p3)] [] (W9 N C E F P Q T G U_1 H B_4 O_4 J_4 (vf_4, vu_4, vx_4) Y_4 Z_4 O9) k n) (g := True ∧ True ∧ True ∧ True ∧ True ∧ True) (by with_unfolding_all rfl) ⟨trivial, trivial, trivial, trivial, trivial, trivial⟩ ?_
        by_cases c7 : vx_4 ≠ 0
        · rw [if_pos c7] at h
          refine am_ev_pos c7 ?_
          refine am_ev_st 6 (f' := am_br ((0 : Int32) = 0) 112 98 [(4, .int (0 : Int32)), (0, .ref 19), (1, .int p1), (2, .int p2), (3, .int p3)] [] (W9 N C E F P Q T G vx_4 H B_4 O_4 J_4 (vf_4, vu_4, vx_4) Y_4 Z_4 O9) k n) (g := True ∧ True ∧ True ∧ True ∧ True ∧ True ∧ True) (by with_unfolding_all rfl) ⟨trivial, trivial, trivial, trivial, trivial, trivial, trivial⟩ ?_
          by_cases c8 : (0 : Int32) = 0
          · rw [if_pos c8] at h
            refine am_ev_pos c8 ?_
            refine am_ev_st 1 (f' := (113, [(4, .int (0 : Int32)), (0, .ref 19), (1, .int p1), (2, .int p2), (3, .int p3)], [.int (0 : Int32)], (W9 N C E F P Q T G vx_4 H B_4 O_4 J_4 (vf_4, vu_4, vx_4) Y_4 Z_4 O9), k, n)) (g := True ∧ True) (by with_unfolding_all rfl) ⟨trivial, trivial⟩ ?_
            cases h
            exact am_ev_ret 0 0 0 rfl .boolean rfl am_n0 rfl
          · rw [if_neg c8] at h
            refine am_ev_neg c8 ?_
            refine am_ev_st 3 (f' := am_br (vx_4 ≠ 0) 112 105 [(4, .int (0 : Int32)), (0, .ref 19), (1, .int p1), (2, .int p2), (3, .int p3)] [] (W9 N C E F P Q T G vx_4 H B_4 O_4 J_4 (vf_4, vu_4, vx_4) Y_4 Z_4 O9) k n) (g := True ∧ True ∧ True ∧ True) (by with_unfolding_all rfl) ⟨trivial, trivial, trivial, trivial⟩ ?_
            by_cases c9 : vx_4 ≠ 0
            · rw [if_pos c9] at h
              refine am_ev_pos c9 ?_
              refine am_ev_st 1 (f' := (113, [(4, .int (0 : Int32)), (0, .ref 19), (1, .int p1), (2, .int p2), (3, .int p3)], [.int (0 : Int32)], (W9 N C E F P Q T G vx_4 H B_4 O_4 J_4 (vf_4, vu_4, vx_4) Y_4 Z_4 O9), k, n)) (g := True ∧ True) (by with_unfolding_all rfl) ⟨trivial, trivial⟩ ?_
              cases h
              exact am_ev_ret 0 0 0 rfl .boolean rfl am_n0 rfl
            · rw [if_neg c9] at h
              refine am_ev_neg c9 ?_
              refine am_ev_st 2 (f' := (113, [(4, .int (0 : Int32)), (0, .ref 19), (1, .int p1), (2, .int p2), (3, .int p3)], [.int (1 : Int32)], (W9 N C E F P Q T G vx_4 H B_4 O_4 J_4 (vf_4, vu_4, vx_4) Y_4 Z_4 O9), k, n)) (g := True ∧ True ∧ True) (by with_unfolding_all rfl) ⟨trivial, trivial, trivial⟩ ?_
              cases h
              exact am_ev_ret 0 0 0 rfl .boolean rfl am_n1 rfl
        · rw [if_neg c7] at h
          refine am_ev_neg c7 ?_
          refine am_ev_st 3 (f' := (73, [(4, .int (0 : Int32)), (0, .ref 19), (1, .int p1), (2, .int p2), (3, .int p3)], [.int (63 : Int32), .int (0 : Int32), .ref 19], (W9 N C E F P Q T G U_1 H B_4 O_4 J_4 (vf_4, vu_4, vx_4) Y_4 Z_4 O9), k, n)) (g := True ∧ True ∧ True ∧ True) (by with_unfolding_all rfl) ⟨trivial, trivial, trivial, trivial⟩ ?_
          replace h := Option.bind_eq_some_iff.mp h
          obtain ⟨B_10, hc10, h⟩ := h
          try dsimp only at h
          refine am_ev_call (.invokevirtual 144) 85 4 831 [.ref 19, .int (0 : Int32), .int (63 : Int32)] [] rfl rfl rfl rfl (ok_fm_copy hc10 D (by omega)) rfl ?_
          refine am_ev_st 3 (f' := (79, [(4, .int (0 : Int32)), (0, .ref 19), (1, .int p1), (2, .int p2), (3, .int p3)], [.int p2, .int (1 : Int32), .ref 19], (W9 N C E F P Q T G U_1 H B_10 O_4 J_4 (vf_4, vu_4, vx_4) Y_4 Z_4 O9), k, n)) (g := True ∧ True ∧ True ∧ True) (by with_unfolding_all rfl) ⟨trivial, trivial, trivial, trivial⟩ ?_
          replace h := Option.bind_eq_some_iff.mp h
          obtain ⟨⟨B_11, J_11⟩, hc11, h⟩ := h
          try dsimp only at h
          refine am_ev_call (.invokevirtual 203) 110 4 808 [.ref 19, .int (1 : Int32), .int p2] [] rfl rfl rfl rfl (ok_fm_load hc11 D (by omega)) rfl ?_
          refine am_ev_st 1 (f' := (83, [(4, .int (0 : Int32)), (0, .ref 19), (1, .int p1), (2, .int p2), (3, .int p3)], [.ref 19], (W9 N C E F P Q T G U_1 H B_11 O_4 J_11 (vf_4, vu_4, vx_4) Y_4 Z_4 O9), k, n)) (g := True ∧ True) (by with_unfolding_all rfl) ⟨trivial, trivial⟩ ?_
          replace h := Option.bind_eq_some_iff.mp h
          obtain ⟨⟨r12, B_12, O_12, J_12, V_12, Z_12⟩, hc12, h⟩ := h
          try dsimp only at h
          refine am_ev_call (.invokevirtual 174) 98 0 905 [.ref 19] [] rfl rfl rfl rfl (ok_fm_areSame hc12 D (by omega)) rfl ?_
          obtain ⟨vf_12, vu_12, vx_12⟩ := V_12
          try dsimp only at h
          refine am_ev_st 7 (f' := am_br ((am_bz r12) = 0) 112 98 [(4, .int (am_bz r12)), (0, .ref 19), (1, .int p1), (2, .int p2), (3, .int p3)] [] (W9 N C E F P Q T G vx_12 H B_12 O_12 J_12 (vf_12, vu_12, vx_12) Y_4 Z_12 O9) k n) (g := True ∧ True ∧ True ∧ True ∧ True ∧ True ∧ True ∧ True) (by with_unfolding_all rfl) ⟨trivial, trivial, trivial, trivial, trivial, trivial, trivial, trivial⟩ ?_
          by_cases c13 : (am_bz r12) = 0
          · rw [if_pos c13] at h
            refine am_ev_pos c13 ?_
            refine am_ev_st 1 (f' := (113, [(4, .int (am_bz r12)), (0, .ref 19), (1, .int p1), (2, .int p2), (3, .int p3)], [.int (0 : Int32)], (W9 N C E F P Q T G vx_12 H B_12 O_12 J_12 (vf_12, vu_12, vx_12) Y_4 Z_12 O9), k, n)) (g := True ∧ True) (by with_unfolding_all rfl) ⟨trivial, trivial⟩ ?_
            cases h
            exact am_ev_ret 0 0 0 rfl .boolean rfl am_n0 rfl
          · rw [if_neg c13] at h
            refine am_ev_neg c13 ?_
            refine am_ev_st 3 (f' := am_br (vx_12 ≠ 0) 112 105 [(4, .int (am_bz r12)), (0, .ref 19), (1, .int p1), (2, .int p2), (3, .int p3)] [] (W9 N C E F P Q T G vx_12 H B_12 O_12 J_12 (vf_12, vu_12, vx_12) Y_4 Z_12 O9) k n) (g := True ∧ True ∧ True ∧ True) (by with_unfolding_all rfl) ⟨trivial, trivial, trivial, trivial⟩ ?_
            by_cases c14 : vx_12 ≠ 0
            · rw [if_pos c14] at h
              refine am_ev_pos c14 ?_
              refine am_ev_st 1 (f' := (113, [(4, .int (am_bz r12)), (0, .ref 19), (1, .int p1), (2, .int p2), (3, .int p3)], [.int (0 : Int32)], (W9 N C E F P Q T G vx_12 H B_12 O_12 J_12 (vf_12, vu_12, vx_12) Y_4 Z_12 O9), k, n)) (g := True ∧ True) (by with_unfolding_all rfl) ⟨trivial, trivial⟩ ?_
              cases h
              exact am_ev_ret 0 0 0 rfl .boolean rfl am_n0 rfl
            · rw [if_neg c14] at h
              refine am_ev_neg c14 ?_
              refine am_ev_st 2 (f' := (113, [(4, .int (am_bz r12)), (0, .ref 19), (1, .int p1), (2, .int p2), (3, .int p3)], [.int (1 : Int32)], (W9 N C E F P Q T G vx_12 H B_12 O_12 J_12 (vf_12, vu_12, vx_12) Y_4 Z_12 O9), k, n)) (g := True ∧ True ∧ True) (by with_unfolding_all rfl) ⟨trivial, trivial, trivial⟩ ?_
              cases h
              exact am_ev_ret 0 0 0 rfl .boolean rfl am_n1 rfl
      · rw [if_neg c6] at h
        refine am_ev_neg c6 ?_
        refine am_ev_st 3 (f' := (50, [(0, .ref 19), (1, .int p1), (2, .int p2), (3, .int p3)], [.int p1, .int (63 : Int32), .ref 19], (W9 N C E F P Q T G U_1 H B_4 O_4 J_4 (vf_4, vu_4, vx_4) Y_4 Z_4 O9), k, n)) (g := True ∧ True ∧ True ∧ True) (by with_unfolding_all rfl) ⟨trivial, trivial, trivial, trivial⟩ ?_
        replace h := Option.bind_eq_some_iff.mp h
        obtain ⟨⟨B_15, J_15⟩, hc15, h⟩ := h
        try dsimp only at h
        refine am_ev_call (.invokevirtual 203) 110 4 808 [.ref 19, .int (63 : Int32), .int p1] [] rfl rfl rfl rfl (ok_fm_load hc15 D (by omega)) rfl ?_
        refine am_ev_st 2 (f' := (56, [(0, .ref 19), (1, .int p1), (2, .int p2), (3, .int p3)], [.int (63 : Int32), .ref 19], (W9 N C E F P Q T G U_1 H B_15 O_4 J_15 (vf_4, vu_4, vx_4) Y_4 Z_4 O9), k, n)) (g := True ∧ True ∧ True) (by with_unfolding_all rfl) ⟨trivial, trivial, trivial⟩ ?_
        replace h := Option.bind_eq_some_iff.mp h
        obtain ⟨⟨B_16, O_16, J_16, V_16, Y_16, Z_16⟩, hc16, h⟩ := h
        try dsimp only at h
        refine am_ev_call (.invokevirtual 206) 105 2 812 [.ref 19, .int (63 : Int32)] [] rfl rfl rfl rfl (ok_fm_toType hc16 D (by omega)) rfl ?_
        obtain ⟨vf_16, vu_16, vx_16⟩ := V_16
        try dsimp only at h
        refine am_ev_st 5 (f' := am_br (vx_16 ≠ 0) 88 66 [(4, .int (0 : Int32)), (0, .ref 19), (1, .int p1), (2, .int p2), (3, .int p3)] [] (W9 N C E F P Q T G U_1 H B_16 O_16 J_16 (vf_16, vu_16, vx_16) Y_16 Z_16 O9) k n) (g := True ∧ True ∧ True ∧ True ∧ True ∧ True) (by with_unfolding_all rfl) ⟨trivial, trivial, trivial, trivial, trivial, trivial⟩ ?_
        by_cases c17 : vx_16 ≠ 0
        · rw [if_pos c17] at h
          refine am_ev_pos c17 ?_
          refine am_ev_st 6 (f' := am_br ((0 : Int32) = 0) 112 98 [(4, .int (0 : Int32)), (0, .ref 19), (1, .int p1), (2, .int p2), (3, .int p3)] [] (W9 N C E F P Q T G vx_16 H B_16 O_16 J_16 (vf_16, vu_16, vx_16) Y_16 Z_16 O9) k n) (g := True ∧ True ∧ True ∧ True ∧ True ∧ True ∧ True) (by with_unfolding_all rfl) ⟨trivial, trivial, trivial, trivial, trivial, trivial, trivial⟩ ?_
          by_cases c18 : (0 : Int32) = 0
          · rw [if_pos c18] at h
            refine am_ev_pos c18 ?_
            refine am_ev_st 1 (f' := (113, [(4, .int (0 : Int32)), (0, .ref 19), (1, .int p1), (2, .int p2), (3, .int p3)], [.int (0 : Int32)], (W9 N C E F P Q T G vx_16 H B_16 O_16 J_16 (vf_16, vu_16, vx_16) Y_16 Z_16 O9), k, n)) (g := True ∧ True) (by with_unfolding_all rfl) ⟨trivial, trivial⟩ ?_
            cases h
            exact am_ev_ret 0 0 0 rfl .boolean rfl am_n0 rfl
          · rw [if_neg c18] at h
            refine am_ev_neg c18 ?_
            refine am_ev_st 3 (f' := am_br (vx_16 ≠ 0) 112 105 [(4, .int (0 : Int32)), (0, .ref 19), (1, .int p1), (2, .int p2), (3, .int p3)] [] (W9 N C E F P Q T G vx_16 H B_16 O_16 J_16 (vf_16, vu_16, vx_16) Y_16 Z_16 O9) k n) (g := True ∧ True ∧ True ∧ True) (by with_unfolding_all rfl) ⟨trivial, trivial, trivial, trivial⟩ ?_
            by_cases c19 : vx_16 ≠ 0
            · rw [if_pos c19] at h
              refine am_ev_pos c19 ?_
              refine am_ev_st 1 (f' := (113, [(4, .int (0 : Int32)), (0, .ref 19), (1, .int p1), (2, .int p2), (3, .int p3)], [.int (0 : Int32)], (W9 N C E F P Q T G vx_16 H B_16 O_16 J_16 (vf_16, vu_16, vx_16) Y_16 Z_16 O9), k, n)) (g := True ∧ True) (by with_unfolding_all rfl) ⟨trivial, trivial⟩ ?_
              cases h
              exact am_ev_ret 0 0 0 rfl .boolean rfl am_n0 rfl
            · rw [if_neg c19] at h
              refine am_ev_neg c19 ?_
              refine am_ev_st 2 (f' := (113, [(4, .int (0 : Int32)), (0, .ref 19), (1, .int p1), (2, .int p2), (3, .int p3)], [.int (1 : Int32)], (W9 N C E F P Q T G vx_16 H B_16 O_16 J_16 (vf_16, vu_16, vx_16) Y_16 Z_16 O9), k, n)) (g := True ∧ True ∧ True) (by with_unfolding_all rfl) ⟨trivial, trivial, trivial⟩ ?_
              cases h
              exact am_ev_ret 0 0 0 rfl .boolean rfl am_n1 rfl
        · rw [if_neg c17] at h
          refine am_ev_neg c17 ?_
          refine am_ev_st 3 (f' := (73, [(4, .int (0 : Int32)), (0, .ref 19), (1, .int p1), (2, .int p2), (3, .int p3)], [.int (63 : Int32), .int (0 : Int32), .ref 19], (W9 N C E F P Q T G U_1 H B_16 O_16 J_16 (vf_16, vu_16, vx_16) Y_16 Z_16 O9), k, n)) (g := True ∧ True ∧ True ∧ True) (by with_unfolding_all rfl) ⟨trivial, trivial, trivial, trivial⟩ ?_
          replace h := Option.bind_eq_some_iff.mp h
          obtain ⟨B_20, hc20, h⟩ := h
          try dsimp only at h
          refine am_ev_call (.invokevirtual 144) 85 4 831 [.ref 19, .int (0 : Int32), .int (63 : Int32)] [] rfl rfl rfl rfl (ok_fm_copy hc20 D (by omega)) rfl ?_
          refine am_ev_st 3 (f' := (79, [(4, .int (0 : Int32)), (0, .ref 19), (1, .int p1), (2, .int p2), (3, .int p3)], [.int p2, .int (1 : Int32), .ref 19], (W9 N C E F P Q T G U_1 H B_20 O_16 J_16 (vf_16, vu_16, vx_16) Y_16 Z_16 O9), k, n)) (g := True ∧ True ∧ True ∧ True) (by with_unfolding_all rfl) ⟨trivial, trivial, trivial, trivial⟩ ?_
          replace h := Option.bind_eq_some_iff.mp h
          obtain ⟨⟨B_21, J_21⟩, hc21, h⟩ := h
          try dsimp only at h
          refine am_ev_call (.invokevirtual 203) 110 4 808 [.ref 19, .int (1 : Int32), .int p2] [] rfl rfl rfl rfl (ok_fm_load hc21 D (by omega)) rfl ?_
          refine am_ev_st 1 (f' := (83, [(4, .int (0 : Int32)), (0, .ref 19), (1, .int p1), (2, .int p2), (3, .int p3)], [.ref 19], (W9 N C E F P Q T G U_1 H B_21 O_16 J_21 (vf_16, vu_16, vx_16) Y_16 Z_16 O9), k, n)) (g := True ∧ True) (by with_unfolding_all rfl) ⟨trivial, trivial⟩ ?_
          replace h := Option.bind_eq_some_iff.mp h
          obtain ⟨⟨r22, B_22, O_22, J_22, V_22, Z_22⟩, hc22, h⟩ := h
          try dsimp only at h
          refine am_ev_call (.invokevirtual 174) 98 0 905 [.ref 19] [] rfl rfl rfl rfl (ok_fm_areSame hc22 D (by omega)) rfl ?_
          obtain ⟨vf_22, vu_22, vx_22⟩ := V_22
          try dsimp only at h
          refine am_ev_st 7 (f' := am_br ((am_bz r22) = 0) 112 98 [(4, .int (am_bz r22)), (0, .ref 19), (1, .int p1), (2, .int p2), (3, .int p3)] [] (W9 N C E F P Q T G vx_22 H B_22 O_22 J_22 (vf_22, vu_22, vx_22) Y_16 Z_22 O9) k n) (g := True ∧ True ∧ True ∧ True ∧ True ∧ True ∧ True ∧ True) (by with_unfolding_all rfl) ⟨trivial, trivial, trivial, trivial, trivial, trivial, trivial, trivial⟩ ?_
          by_cases c23 : (am_bz r22) = 0
          · rw [if_pos c23] at h
            refine am_ev_pos c23 ?_
            refine am_ev_st 1 (f' := (113, [(4, .int (am_bz r22)), (0, .ref 19), (1, .int p1), (2, .int p2), (3, .int p3)], [.int (0 : Int32)], (W9 N C E F P Q T G vx_22 H B_22 O_22 J_22 (vf_22, vu_22, vx_22) Y_16 Z_22 O9), k, n)) (g := True ∧ True) (by with_unfolding_all rfl) ⟨trivial, trivial⟩ ?_
            cases h
            exact am_ev_ret 0 0 0 rfl .boolean rfl am_n0 rfl
          · rw [if_neg c23] at h
            refine am_ev_neg c23 ?_
            refine am_ev_st 3 (f' := am_br (vx_22 ≠ 0) 112 105 [(4, .int (am_bz r22)), (0, .ref 19), (1, .int p1), (2, .int p2), (3, .int p3)] [] (W9 N C E F P Q T G vx_22 H B_22 O_22 J_22 (vf_22, vu_22, vx_22) Y_16 Z_22 O9) k n) (g := True ∧ True ∧ True ∧ True) (by with_unfolding_all rfl) ⟨trivial, trivial, trivial, trivial⟩ ?_
            by_cases c24 : vx_22 ≠ 0
            · rw [if_pos c24] at h
              refine am_ev_pos c24 ?_
              refine am_ev_st 1 (f' := (113, [(4, .int (am_bz r22)), (0, .ref 19), (1, .int p1), (2, .int p2), (3, .int p3)], [.int (0 : Int32)], (W9 N C E F P Q T G vx_22 H B_22 O_22 J_22 (vf_22, vu_22, vx_22) Y_16 Z_22 O9), k, n)) (g := True ∧ True) (by with_unfolding_all rfl) ⟨trivial, trivial⟩ ?_
              cases h
              exact am_ev_ret 0 0 0 rfl .boolean rfl am_n0 rfl
            · rw [if_neg c24] at h
              refine am_ev_neg c24 ?_
              refine am_ev_st 2 (f' := (113, [(4, .int (am_bz r22)), (0, .ref 19), (1, .int p1), (2, .int p2), (3, .int p3)], [.int (1 : Int32)], (W9 N C E F P Q T G vx_22 H B_22 O_22 J_22 (vf_22, vu_22, vx_22) Y_16 Z_22 O9), k, n)) (g := True ∧ True ∧ True) (by with_unfolding_all rfl) ⟨trivial, trivial, trivial⟩ ?_
              cases h
              exact am_ev_ret 0 0 0 rfl .boolean rfl am_n1 rfl
    · rw [if_neg c5] at h
      refine am_ev_neg c5 ?_
      refine am_ev_st 2 (f' := (35, [(0, .ref 19), (1, .int p1), (2, .int p2), (3, .int p3)], [.int (63 : Int32), .ref 19], (W9 N C E F P Q T G U_1 H B_4 O_4 J_4 (vf_4, vu_4, vx_4) Y_4 Z_4 O9), k, n)) (g := True ∧ True ∧ True) (by with_unfolding_all rfl) ⟨trivial, trivial, trivial⟩ ?_
      replace h := Option.bind_eq_some_iff.mp h
      obtain ⟨⟨r25, B_25, O_25, J_25, V_25⟩, hc25, h⟩ := h
      try dsimp only at h
      refine am_ev_call (.invokevirtual 171) 100 2 897 [.ref 19, .int (63 : Int32)] [] rfl rfl rfl rfl (ok_fm_levelIn hc25 D (by omega)) rfl ?_
      obtain ⟨vf_25, vu_25, vx_25⟩ := V_25
      try dsimp only at h
      refine am_ev_st 4 (f' := am_br (vx_25 ≠ 0) 59 43 [(0, .ref 19), (1, .int p1), (2, .int p2), (3, .int p3)] [] (W9 N C E F P Q T G U_1 H B_25 O_25 J_25 (vf_25, vu_25, vx_25) Y_4 Z_4 O9) k n) (g := True ∧ True ∧ True ∧ True ∧ True) (by with_unfolding_all rfl) ⟨trivial, trivial, trivial, trivial, trivial⟩ ?_
      by_cases c26 : vx_25 ≠ 0
      · rw [if_pos c26] at h
        refine am_ev_pos c26 ?_
        refine am_ev_st 5 (f' := am_br (vx_25 ≠ 0) 88 66 [(4, .int (0 : Int32)), (0, .ref 19), (1, .int p1), (2, .int p2), (3, .int p3)] [] (W9 N C E F P Q T G U_1 H B_25 O_25 J_25 (vf_25, vu_25, vx_25) Y_4 Z_4 O9) k n) (g := True ∧ True ∧ True ∧ True ∧ True ∧ True) (by with_unfolding_all rfl) ⟨trivial, trivial, trivial, trivial, trivial, trivial⟩ ?_
        by_cases c27 : vx_25 ≠ 0
        · rw [if_pos c27] at h
          refine am_ev_pos c27 ?_
          refine am_ev_st 6 (f' := am_br ((0 : Int32) = 0) 112 98 [(4, .int (0 : Int32)), (0, .ref 19), (1, .int p1), (2, .int p2), (3, .int p3)] [] (W9 N C E F P Q T G vx_25 H B_25 O_25 J_25 (vf_25, vu_25, vx_25) Y_4 Z_4 O9) k n) (g := True ∧ True ∧ True ∧ True ∧ True ∧ True ∧ True) (by with_unfolding_all rfl) ⟨trivial, trivial, trivial, trivial, trivial, trivial, trivial⟩ ?_
          by_cases c28 : (0 : Int32) = 0
          · rw [if_pos c28] at h
            refine am_ev_pos c28 ?_
            refine am_ev_st 1 (f' := (113, [(4, .int (0 : Int32)), (0, .ref 19), (1, .int p1), (2, .int p2), (3, .int p3)], [.int (0 : Int32)], (W9 N C E F P Q T G vx_25 H B_25 O_25 J_25 (vf_25, vu_25, vx_25) Y_4 Z_4 O9), k, n)) (g := True ∧ True) (by with_unfolding_all rfl) ⟨trivial, trivial⟩ ?_
            cases h
            exact am_ev_ret 0 0 0 rfl .boolean rfl am_n0 rfl
          · rw [if_neg c28] at h
            refine am_ev_neg c28 ?_
            refine am_ev_st 3 (f' := am_br (vx_25 ≠ 0) 112 105 [(4, .int (0 : Int32)), (0, .ref 19), (1, .int p1), (2, .int p2), (3, .int p3)] [] (W9 N C E F P Q T G vx_25 H B_25 O_25 J_25 (vf_25, vu_25, vx_25) Y_4 Z_4 O9) k n) (g := True ∧ True ∧ True ∧ True) (by with_unfolding_all rfl) ⟨trivial, trivial, trivial, trivial⟩ ?_
            by_cases c29 : vx_25 ≠ 0
            · rw [if_pos c29] at h
              refine am_ev_pos c29 ?_
              refine am_ev_st 1 (f' := (113, [(4, .int (0 : Int32)), (0, .ref 19), (1, .int p1), (2, .int p2), (3, .int p3)], [.int (0 : Int32)], (W9 N C E F P Q T G vx_25 H B_25 O_25 J_25 (vf_25, vu_25, vx_25) Y_4 Z_4 O9), k, n)) (g := True ∧ True) (by with_unfolding_all rfl) ⟨trivial, trivial⟩ ?_
              cases h
              exact am_ev_ret 0 0 0 rfl .boolean rfl am_n0 rfl
            · rw [if_neg c29] at h
              refine am_ev_neg c29 ?_
              refine am_ev_st 2 (f' := (113, [(4, .int (0 : Int32)), (0, .ref 19), (1, .int p1), (2, .int p2), (3, .int p3)], [.int (1 : Int32)], (W9 N C E F P Q T G vx_25 H B_25 O_25 J_25 (vf_25, vu_25, vx_25) Y_4 Z_4 O9), k, n)) (g := True ∧ True ∧ True) (by with_unfolding_all rfl) ⟨trivial, trivial, trivial⟩ ?_
              cases h
              exact am_ev_ret 0 0 0 rfl .boolean rfl am_n1 rfl
        · rw [if_neg c27] at h
          refine am_ev_neg c27 ?_
          refine am_ev_st 3 (f' := (73, [(4, .int (0 : Int32)), (0, .ref 19), (1, .int p1), (2, .int p2), (3, .int p3)], [.int (63 : Int32), .int (0 : Int32), .ref 19], (W9 N C E F P Q T G U_1 H B_25 O_25 J_25 (vf_25, vu_25, vx_25) Y_4 Z_4 O9), k, n)) (g := True ∧ True ∧ True ∧ True) (by with_unfolding_all rfl) ⟨trivial, trivial, trivial, trivial⟩ ?_
          replace h := Option.bind_eq_some_iff.mp h
          obtain ⟨B_30, hc30, h⟩ := h
          try dsimp only at h
          refine am_ev_call (.invokevirtual 144) 85 4 831 [.ref 19, .int (0 : Int32), .int (63 : Int32)] [] rfl rfl rfl rfl (ok_fm_copy hc30 D (by omega)) rfl ?_
          refine am_ev_st 3 (f' := (79, [(4, .int (0 : Int32)), (0, .ref 19), (1, .int p1), (2, .int p2), (3, .int p3)], [.int p2, .int (1 : Int32), .ref 19], (W9 N C E F P Q T G U_1 H B_30 O_25 J_25 (vf_25, vu_25, vx_25) Y_4 Z_4 O9), k, n)) (g := True ∧ True ∧ True ∧ True) (by with_unfolding_all rfl) ⟨trivial, trivial, trivial, trivial⟩ ?_
          replace h := Option.bind_eq_some_iff.mp h
          obtain ⟨⟨B_31, J_31⟩, hc31, h⟩ := h
          try dsimp only at h
          refine am_ev_call (.invokevirtual 203) 110 4 808 [.ref 19, .int (1 : Int32), .int p2] [] rfl rfl rfl rfl (ok_fm_load hc31 D (by omega)) rfl ?_
          refine am_ev_st 1 (f' := (83, [(4, .int (0 : Int32)), (0, .ref 19), (1, .int p1), (2, .int p2), (3, .int p3)], [.ref 19], (W9 N C E F P Q T G U_1 H B_31 O_25 J_31 (vf_25, vu_25, vx_25) Y_4 Z_4 O9), k, n)) (g := True ∧ True) (by with_unfolding_all rfl) ⟨trivial, trivial⟩ ?_
          replace h := Option.bind_eq_some_iff.mp h
          obtain ⟨⟨r32, B_32, O_32, J_32, V_32, Z_32⟩, hc32, h⟩ := h
          try dsimp only at h
          refine am_ev_call (.invokevirtual 174) 98 0 905 [.ref 19] [] rfl rfl rfl rfl (ok_fm_areSame hc32 D (by omega)) rfl ?_
          obtain ⟨vf_32, vu_32, vx_32⟩ := V_32
          try dsimp only at h
          refine am_ev_st 7 (f' := am_br ((am_bz r32) = 0) 112 98 [(4, .int (am_bz r32)), (0, .ref 19), (1, .int p1), (2, .int p2), (3, .int p3)] [] (W9 N C E F P Q T G vx_32 H B_32 O_32 J_32 (vf_32, vu_32, vx_32) Y_4 Z_32 O9) k n) (g := True ∧ True ∧ True ∧ True ∧ True ∧ True ∧ True ∧ True) (by with_unfolding_all rfl) ⟨trivial, trivial, trivial, trivial, trivial, trivial, trivial, trivial⟩ ?_
          by_cases c33 : (am_bz r32) = 0
          · rw [if_pos c33] at h
            refine am_ev_pos c33 ?_
            refine am_ev_st 1 (f' := (113, [(4, .int (am_bz r32)), (0, .ref 19), (1, .int p1), (2, .int p2), (3, .int p3)], [.int (0 : Int32)], (W9 N C E F P Q T G vx_32 H B_32 O_32 J_32 (vf_32, vu_32, vx_32) Y_4 Z_32 O9), k, n)) (g := True ∧ True) (by with_unfolding_all rfl) ⟨trivial, trivial⟩ ?_
            cases h
            exact am_ev_ret 0 0 0 rfl .boolean rfl am_n0 rfl
          · rw [if_neg c33] at h
            refine am_ev_neg c33 ?_
            refine am_ev_st 3 (f' := am_br (vx_32 ≠ 0) 112 105 [(4, .int (am_bz r32)), (0, .ref 19), (1, .int p1), (2, .int p2), (3, .int p3)] [] (W9 N C E F P Q T G vx_32 H B_32 O_32 J_32 (vf_32, vu_32, vx_32) Y_4 Z_32 O9) k n) (g := True ∧ True ∧ True ∧ True) (by with_unfolding_all rfl) ⟨trivial, trivial, trivial, trivial⟩ ?_
            by_cases c34 : vx_32 ≠ 0
            · rw [if_pos c34] at h
              refine am_ev_pos c34 ?_
              refine am_ev_st 1 (f' := (113, [(4, .int (am_bz r32)), (0, .ref 19), (1, .int p1), (2, .int p2), (3, .int p3)], [.int (0 : Int32)], (W9 N C E F P Q T G vx_32 H B_32 O_32 J_32 (vf_32, vu_32, vx_32) Y_4 Z_32 O9), k, n)) (g := True ∧ True) (by with_unfolding_all rfl) ⟨trivial, trivial⟩ ?_
              cases h
              exact am_ev_ret 0 0 0 rfl .boolean rfl am_n0 rfl
            · rw [if_neg c34] at h
              refine am_ev_neg c34 ?_
              refine am_ev_st 2 (f' := (113, [(4, .int (am_bz r32)), (0, .ref 19), (1, .int p1), (2, .int p2), (3, .int p3)], [.int (1 : Int32)], (W9 N C E F P Q T G vx_32 H B_32 O_32 J_32 (vf_32, vu_32, vx_32) Y_4 Z_32 O9), k, n)) (g := True ∧ True ∧ True) (by with_unfolding_all rfl) ⟨trivial, trivial, trivial⟩ ?_
              cases h
              exact am_ev_ret 0 0 0 rfl .boolean rfl am_n1 rfl
      · rw [if_neg c26] at h
        refine am_ev_neg c26 ?_
        refine am_ev_st 3 (f' := (50, [(0, .ref 19), (1, .int p1), (2, .int p2), (3, .int p3)], [.int p1, .int (63 : Int32), .ref 19], (W9 N C E F P Q T G U_1 H B_25 O_25 J_25 (vf_25, vu_25, vx_25) Y_4 Z_4 O9), k, n)) (g := True ∧ True ∧ True ∧ True) (by with_unfolding_all rfl) ⟨trivial, trivial, trivial, trivial⟩ ?_
        replace h := Option.bind_eq_some_iff.mp h
        obtain ⟨⟨B_35, J_35⟩, hc35, h⟩ := h
        try dsimp only at h
        refine am_ev_call (.invokevirtual 203) 110 4 808 [.ref 19, .int (63 : Int32), .int p1] [] rfl rfl rfl rfl (ok_fm_load hc35 D (by omega)) rfl ?_
        refine am_ev_st 2 (f' := (56, [(0, .ref 19), (1, .int p1), (2, .int p2), (3, .int p3)], [.int (63 : Int32), .ref 19], (W9 N C E F P Q T G U_1 H B_35 O_25 J_35 (vf_25, vu_25, vx_25) Y_4 Z_4 O9), k, n)) (g := True ∧ True ∧ True) (by with_unfolding_all rfl) ⟨trivial, trivial, trivial⟩ ?_
        replace h := Option.bind_eq_some_iff.mp h
        obtain ⟨⟨B_36, O_36, J_36, V_36, Y_36, Z_36⟩, hc36, h⟩ := h
        try dsimp only at h
        refine am_ev_call (.invokevirtual 206) 105 2 812 [.ref 19, .int (63 : Int32)] [] rfl rfl rfl rfl (ok_fm_toType hc36 D (by omega)) rfl ?_
        obtain ⟨vf_36, vu_36, vx_36⟩ := V_36
        try dsimp only at h
        refine am_ev_st 5 (f' := am_br (vx_36 ≠ 0) 88 66 [(4, .int (0 : Int32)), (0, .ref 19), (1, .int p1), (2, .int p2), (3, .int p3)] [] (W9 N C E F P Q T G U_1 H B_36 O_36 J_36 (vf_36, vu_36, vx_36) Y_36 Z_36 O9) k n) (g := True ∧ True ∧ True ∧ True ∧ True ∧ True) (by with_unfolding_all rfl) ⟨trivial, trivial, trivial, trivial, trivial, trivial⟩ ?_
        by_cases c37 : vx_36 ≠ 0
        · rw [if_pos c37] at h
          refine am_ev_pos c37 ?_
          refine am_ev_st 6 (f' := am_br ((0 : Int32) = 0) 112 98 [(4, .int (0 : Int32)), (0, .ref 19), (1, .int p1), (2, .int p2), (3, .int p3)] [] (W9 N C E F P Q T G vx_36 H B_36 O_36 J_36 (vf_36, vu_36, vx_36) Y_36 Z_36 O9) k n) (g := True ∧ True ∧ True ∧ True ∧ True ∧ True ∧ True) (by with_unfolding_all rfl) ⟨trivial, trivial, trivial, trivial, trivial, trivial, trivial⟩ ?_
          by_cases c38 : (0 : Int32) = 0
          · rw [if_pos c38] at h
            refine am_ev_pos c38 ?_
            refine am_ev_st 1 (f' := (113, [(4, .int (0 : Int32)), (0, .ref 19), (1, .int p1), (2, .int p2), (3, .int p3)], [.int (0 : Int32)], (W9 N C E F P Q T G vx_36 H B_36 O_36 J_36 (vf_36, vu_36, vx_36) Y_36 Z_36 O9), k, n)) (g := True ∧ True) (by with_unfolding_all rfl) ⟨trivial, trivial⟩ ?_
            cases h
            exact am_ev_ret 0 0 0 rfl .boolean rfl am_n0 rfl
          · rw [if_neg c38] at h
            refine am_ev_neg c38 ?_
            refine am_ev_st 3 (f' := am_br (vx_36 ≠ 0) 112 105 [(4, .int (0 : Int32)), (0, .ref 19), (1, .int p1), (2, .int p2), (3, .int p3)] [] (W9 N C E F P Q T G vx_36 H B_36 O_36 J_36 (vf_36, vu_36, vx_36) Y_36 Z_36 O9) k n) (g := True ∧ True ∧ True ∧ True) (by with_unfolding_all rfl) ⟨trivial, trivial, trivial, trivial⟩ ?_
            by_cases c39 : vx_36 ≠ 0
            · rw [if_pos c39] at h
              refine am_ev_pos c39 ?_
              refine am_ev_st 1 (f' := (113, [(4, .int (0 : Int32)), (0, .ref 19), (1, .int p1), (2, .int p2), (3, .int p3)], [.int (0 : Int32)], (W9 N C E F P Q T G vx_36 H B_36 O_36 J_36 (vf_36, vu_36, vx_36) Y_36 Z_36 O9), k, n)) (g := True ∧ True) (by with_unfolding_all rfl) ⟨trivial, trivial⟩ ?_
              cases h
              exact am_ev_ret 0 0 0 rfl .boolean rfl am_n0 rfl
            · rw [if_neg c39] at h
              refine am_ev_neg c39 ?_
              refine am_ev_st 2 (f' := (113, [(4, .int (0 : Int32)), (0, .ref 19), (1, .int p1), (2, .int p2), (3, .int p3)], [.int (1 : Int32)], (W9 N C E F P Q T G vx_36 H B_36 O_36 J_36 (vf_36, vu_36, vx_36) Y_36 Z_36 O9), k, n)) (g := True ∧ True ∧ True) (by with_unfolding_all rfl) ⟨trivial, trivial, trivial⟩ ?_
              cases h
              exact am_ev_ret 0 0 0 rfl .boolean rfl am_n1 rfl
        · rw [if_neg c37] at h
          refine am_ev_neg c37 ?_
          refine am_ev_st 3 (f' := (73, [(4, .int (0 : Int32)), (0, .ref 19), (1, .int p1), (2, .int p2), (3, .int p3)], [.int (63 : Int32), .int (0 : Int32), .ref 19], (W9 N C E F P Q T G U_1 H B_36 O_36 J_36 (vf_36, vu_36, vx_36) Y_36 Z_36 O9), k, n)) (g := True ∧ True ∧ True ∧ True) (by with_unfolding_all rfl) ⟨trivial, trivial, trivial, trivial⟩ ?_
          replace h := Option.bind_eq_some_iff.mp h
          obtain ⟨B_40, hc40, h⟩ := h
          try dsimp only at h
          refine am_ev_call (.invokevirtual 144) 85 4 831 [.ref 19, .int (0 : Int32), .int (63 : Int32)] [] rfl rfl rfl rfl (ok_fm_copy hc40 D (by omega)) rfl ?_
          refine am_ev_st 3 (f' := (79, [(4, .int (0 : Int32)), (0, .ref 19), (1, .int p1), (2, .int p2), (3, .int p3)], [.int p2, .int (1 : Int32), .ref 19], (W9 N C E F P Q T G U_1 H B_40 O_36 J_36 (vf_36, vu_36, vx_36) Y_36 Z_36 O9), k, n)) (g := True ∧ True ∧ True ∧ True) (by with_unfolding_all rfl) ⟨trivial, trivial, trivial, trivial⟩ ?_
          replace h := Option.bind_eq_some_iff.mp h
          obtain ⟨⟨B_41, J_41⟩, hc41, h⟩ := h
          try dsimp only at h
          refine am_ev_call (.invokevirtual 203) 110 4 808 [.ref 19, .int (1 : Int32), .int p2] [] rfl rfl rfl rfl (ok_fm_load hc41 D (by omega)) rfl ?_
          refine am_ev_st 1 (f' := (83, [(4, .int (0 : Int32)), (0, .ref 19), (1, .int p1), (2, .int p2), (3, .int p3)], [.ref 19], (W9 N C E F P Q T G U_1 H B_41 O_36 J_41 (vf_36, vu_36, vx_36) Y_36 Z_36 O9), k, n)) (g := True ∧ True) (by with_unfolding_all rfl) ⟨trivial, trivial⟩ ?_
          replace h := Option.bind_eq_some_iff.mp h
          obtain ⟨⟨r42, B_42, O_42, J_42, V_42, Z_42⟩, hc42, h⟩ := h
          try dsimp only at h
          refine am_ev_call (.invokevirtual 174) 98 0 905 [.ref 19] [] rfl rfl rfl rfl (ok_fm_areSame hc42 D (by omega)) rfl ?_
          obtain ⟨vf_42, vu_42, vx_42⟩ := V_42
          try dsimp only at h
          refine am_ev_st 7 (f' := am_br ((am_bz r42) = 0) 112 98 [(4, .int (am_bz r42)), (0, .ref 19), (1, .int p1), (2, .int p2), (3, .int p3)] [] (W9 N C E F P Q T G vx_42 H B_42 O_42 J_42 (vf_42, vu_42, vx_42) Y_36 Z_42 O9) k n) (g := True ∧ True ∧ True ∧ True ∧ True ∧ True ∧ True ∧ True) (by with_unfolding_all rfl) ⟨trivial, trivial, trivial, trivial, trivial, trivial, trivial, trivial⟩ ?_
          by_cases c43 : (am_bz r42) = 0
          · rw [if_pos c43] at h
            refine am_ev_pos c43 ?_
            refine am_ev_st 1 (f' := (113, [(4, .int (am_bz r42)), (0, .ref 19), (1, .int p1), (2, .int p2), (3, .int p3)], [.int (0 : Int32)], (W9 N C E F P Q T G vx_42 H B_42 O_42 J_42 (vf_42, vu_42, vx_42) Y_36 Z_42 O9), k, n)) (g := True ∧ True) (by with_unfolding_all rfl) ⟨trivial, trivial⟩ ?_
            cases h
            exact am_ev_ret 0 0 0 rfl .boolean rfl am_n0 rfl
          · rw [if_neg c43] at h
            refine am_ev_neg c43 ?_
            refine am_ev_st 3 (f' := am_br (vx_42 ≠ 0) 112 105 [(4, .int (am_bz r42)), (0, .ref 19), (1, .int p1), (2, .int p2), (3, .int p3)] [] (W9 N C E F P Q T G vx_42 H B_42 O_42 J_42 (vf_42, vu_42, vx_42) Y_36 Z_42 O9) k n) (g := True ∧ True ∧ True ∧ True) (by with_unfolding_all rfl) ⟨trivial, trivial, trivial, trivial⟩ ?_
            by_cases c44 : vx_42 ≠ 0
            · rw [if_pos c44] at h
              refine am_ev_pos c44 ?_
              refine am_ev_st 1 (f' := (113, [(4, .int (am_bz r42)), (0, .ref 19), (1, .int p1), (2, .int p2), (3, .int p3)], [.int (0 : Int32)], (W9 N C E F P Q T G vx_42 H B_42 O_42 J_42 (vf_42, vu_42, vx_42) Y_36 Z_42 O9), k, n)) (g := True ∧ True) (by with_unfolding_all rfl) ⟨trivial, trivial⟩ ?_
              cases h
              exact am_ev_ret 0 0 0 rfl .boolean rfl am_n0 rfl
            · rw [if_neg c44] at h
              refine am_ev_neg c44 ?_
              refine am_ev_st 2 (f' := (113, [(4, .int (am_bz r42)), (0, .ref 19), (1, .int p1), (2, .int p2), (3, .int p3)], [.int (1 : Int32)], (W9 N C E F P Q T G vx_42 H B_42 O_42 J_42 (vf_42, vu_42, vx_42) Y_36 Z_42 O9), k, n)) (g := True ∧ True ∧ True) (by with_unfolding_all rfl) ⟨trivial, trivial, trivial⟩ ?_
              cases h
              exact am_ev_ret 0 0 0 rfl .boolean rfl am_n1 rfl
  · rw [if_neg c2] at h
    refine am_ev_neg c2 ?_
    refine am_ev_st 1 (f' := (11, [(0, .ref 19), (1, .int p1), (2, .int p2), (3, .int p3)], [.int (0 : Int32)], (W9 N C E F P Q T G U_1 H B O J V_1 Y Z O9), k, n)) (g := True ∧ True) (by with_unfolding_all rfl) ⟨trivial, trivial⟩ ?_
    cases h
    exact am_ev_ret 0 0 0 rfl .boolean rfl am_n0 rfl
