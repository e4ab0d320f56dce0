def fm_levelIn (fl : Nat) (G : cG) (B : cB) (O : cO) (J : cJ) (V : cV) (p1 : Int32) : Option (Int32 × cB × cO × cJ × cV) :=
  (fm_toHead fl G B O J V p1).bind fun z1 =>
  match z1 with
  | (B_1, O_1, J_1, V_1) =>
  match V_1 with
  | (vf_1, vu_1, vx_1) =>
  if vx_1 = 0 then
  ((fm_at B_1 p1 (0 : Int32)).bind fun z3 =>
  match z3 with
  | (r3) =>
  (fm_kindOf r3).bind fun z4 =>
  match z4 with
  | (r4) =>
  if r4 = (1 : Int32) then
  (some ((r3 / (10 : Int32)), B_1, O_1, J_1, V_1))
  else
  some ((r3 / (10 : Int32)), B_1, O_1, J_1, (vf_1, vu_1, (2 : Int32))))
  else
  some ((0 : Int32), B_1, O_1, J_1, V_1)
set_option maxHeartbeats 4000000 in
set_option maxRecDepth 100000 in
theorem ok_fm_levelIn {fl : Nat} {N : cN} {C : cC} {E : cE} {F : cF} {P : cP} {Q : cQ} {T : cT} {G : cG} {U : cU} {H : cH} {B : cB} {O : cO} {J : cJ} {V : cV} {Y : cY} {Z : cZ} {O9 : cO9} {k n : Nat} {p1 : Int32} {rv : Int32} {B' : cB} {O' : cO} {J' : cJ} {V' : cV} (h : fm_levelIn fl G B O J V p1 = some (rv, B', O', J', V')) (D : Nat) (hD : 5 ≤ D) : am_Call D 99 [.ref 19, .int p1] (W9 N C E F P Q T G U H B O J V Y Z O9) k n (.inl (some (.int rv)), W9 N C E F P Q T G U H B' O' J' V' Y Z O9, k, n) := by
  unfold fm_levelIn at h
  obtain ⟨D, rfl⟩ : ∃ D', D = D' + 1 := ⟨D - 1, by omega⟩
  have hD : 4 ≤ D := by omega
  refine am_call_run (by decide) (by decide) rfl (Nat.le_of_ble_eq_true rfl) (by decide) (L := [(0, .ref 19), (1, .int p1)]) rfl ?_
  refine am_ev_st 2 (f' := (2, [(0, .ref 19), (1, .int p1)], [.int p1, .ref 19], (W9 N C E F P Q T G U H B O J V Y Z O9), k, n)) (g := True ∧ True ∧ True) (by with_unfolding_all rfl) ⟨trivial, trivial, trivial⟩ ?_
  replace h := Option.bind_eq_some_iff.mp h
  obtain ⟨⟨B_1, O_1, J_1, V_1⟩, hc1, h⟩ := h
  try dsimp only at h
  refine am_ev_call (.invokevirtual 134) 94 2 861 [.ref 19, .int p1] [] rfl rfl rfl rfl (ok_fm_toHead hc1 D (by omega)) rfl ?_
  obtain ⟨vf_1, vu_1, vx_1⟩ := V_1
  try dsimp only at h
  refine am_ev_st 3 (f' := am_br (vx_1 = 0) 14 9 [(0, .ref 19), (1, .int p1)] [] (W9 N C E F P Q T G U H B_1 O_1 J_1 (vf_1, vu_1, vx_1) Y Z O9) k n) (g := True ∧ True ∧ True ∧ True) (by with_unfolding_all rfl) ⟨trivial, trivial, trivial, trivial⟩ ?_
  by_cases c2 : vx_1 = 0
  · rw [if_pos c2] at h
    refine am_ev_pos c2 ?_
    refine am_ev_st 3 (f' := (17, [(0, .ref 19), (1, .int p1)], [.int (0 : Int32), .int p1, .ref 19], (W9 N C E F P Q T G U H B_1 O_1 J_1 (vf_1, vu_1, vx_1) Y Z O9), k, n)) (g := True ∧ True ∧ True ∧ True) (by with_unfolding_all rfl) ⟨trivial, trivial, trivial, trivial⟩ ?_
    replace h := Option.bind_eq_some_iff.mp h
    obtain ⟨r3, hc3, h⟩ := h
    try dsimp only at h
    refine am_ev_call (.invokevirtual 69) 81 4 820 [.ref 19, .int p1, .int (0 : Int32)] [] rfl rfl rfl rfl (ok_fm_at hc3 D (by omega)) rfl ?_
    refine am_ev_st 2 (f' := (22, [(2, .int r3), (0, .ref 19), (1, .int p1)], [.int r3], (W9 N C E F P Q T G U H B_1 O_1 J_1 (vf_1, vu_1, vx_1) Y Z O9), k, n)) (g := True ∧ True ∧ True) (by with_unfolding_all rfl) ⟨trivial, trivial, trivial⟩ ?_
    replace h := Option.bind_eq_some_iff.mp h
    obtain ⟨r4, hc4, h⟩ := h
    try dsimp only at h
    refine am_ev_call (.invokestatic 80) 78 2 824 [.int r3] [] rfl rfl rfl rfl (ok_fm_kindOf hc4 D (by omega)) rfl ?_
    refine am_ev_st 2 (f' := am_br (r4 = (1 : Int32)) 34 26 [(2, .int r3), (0, .ref 19), (1, .int p1)] [] (W9 N C E F P Q T G U H B_1 O_1 J_1 (vf_1, vu_1, vx_1) Y Z O9) k n) (g := True ∧ True ∧ True) (by with_unfolding_all rfl) ⟨trivial, trivial, trivial⟩ ?_
    by_cases c5 : r4 = (1 : Int32)
    · rw [if_pos c5] at h
      refine am_ev_pos c5 ?_
      refine am_ev_st 3 (f' := (38, [(2, .int r3), (0, .ref 19), (1, .int p1)], [.int (r3 / (10 : Int32))], (W9 N C E F P Q T G U H B_1 O_1 J_1 (vf_1, vu_1, vx_1) Y Z O9), k, n)) (g := True ∧ True ∧ ¬ ((10 : Int32) = 0) ∧ True) (by with_unfolding_all rfl) ⟨trivial, trivial, by decide, trivial⟩ ?_
      cases h
      exact am_ev_ret 0 0 0 rfl .int rfl rfl rfl
    · rw [if_neg c5] at h
      refine am_ev_neg c5 ?_
      refine am_ev_st 6 (f' := (38, [(2, .int r3), (0, .ref 19), (1, .int p1)], [.int (r3 / (10 : Int32))], (W9 N C E F P Q T G U H B_1 O_1 J_1 (vf_1, vu_1, (2 : Int32)) Y Z O9), k, n)) (g := True ∧ True ∧ True ∧ True ∧ True ∧ ¬ ((10 : Int32) = 0) ∧ True) (by with_unfolding_all rfl) ⟨trivial, trivial, trivial, trivial, trivial, by decide, trivial⟩ ?_
      cases h
      exact am_ev_ret 0 0 0 rfl .int rfl rfl rfl
  · rw [if_neg c2] at h
    refine am_ev_neg c2 ?_
    refine am_ev_st 1 (f' := (13, [(0, .ref 19), (1, .int p1)], [.int (0 : Int32)], (W9 N C E F P Q T G U H B_1 O_1 J_1 (vf_1, vu_1, vx_1) Y Z O9), k, n)) (g := True ∧ True) (by with_unfolding_all rfl) ⟨trivial, trivial⟩ ?_
    cases h
    exact am_ev_ret 0 0 0 rfl .int rfl rfl rfl
def fm_second (fl : Nat) (G : cG) (B : cB) (O : cO) (J : cJ) (V : cV) (Y : cY) (p1 : Int32) : Option (cB × cO × cJ × cV × cY) :=
  match Y with
  | (yo, ya, ys, yl, yt, yk, yc) =>
  if (p1 < 0 ∨ 40 ≤ (p1).toNatClampNeg) then none else
  (fm_endOf fl B (ya (p1).toNatClampNeg) (1 : Int32)).bind fun z2 =>
  match z2 with
  | (r2) =>
  (fm_at B (ya (p1).toNatClampNeg) (0 : Int32)).bind fun z3 =>
  match z3 with
  | (r3) =>
  (fm_kindOf r3).bind fun z4 =>
  match z4 with
  | (r4) =>
  if r4 ≠ (4 : Int32) then
  ((fm_levelIn fl G B O J V (yt - (1 : Int32))).bind fun z6 =>
  match z6 with
  | (r6, B_6, O_6, J_6, V_6) =>
  match V_6 with
  | (vf_6, vu_6, vx_6) =>
  if (p1 < 0 ∨ 40 ≤ (p1).toNatClampNeg) then none else
  if vx_6 = 0 then
  ((fm_copyPart fl B_6 (yt - (1 : Int32)) (ya (p1).toNatClampNeg) (1 : Int32)).bind fun z9 =>
  match z9 with
  | (B_9) =>
  if (yk < 0 ∨ 40 ≤ (yk).toNatClampNeg) then none else
  if (p1 < 0 ∨ 40 ≤ (p1).toNatClampNeg) then none else
  (fm_askPart fl B_9 (yo, ya, (upd ys (p1).toNatClampNeg (2 : Int32)), (upd yl (p1).toNatClampNeg r6), yt, (yk + (1 : Int32)), (upd yc (yk).toNatClampNeg (yt - (1 : Int32)))) (ya (p1).toNatClampNeg) r2).bind fun z12 =>
  match z12 with
  | (B_12, Y_12) =>
  some (B_12, O_6, J_6, V_6, Y_12))
  else
  some (B_6, O_6, J_6, V_6, (yo, ya, ys, (upd yl (p1).toNatClampNeg r6), yt, yk, yc)))
  else
  (fm_toHead fl G B O J V (yt - (1 : Int32))).bind fun z13 =>
  match z13 with
  | (B_13, O_13, J_13, V_13) =>
  match V_13 with
  | (vf_13, vu_13, vx_13) =>
  if vx_13 = 0 then
  ((fm_at B_13 (yt - (1 : Int32)) (0 : Int32)).bind fun z15 =>
  match z15 with
  | (r15) =>
  (fm_kindOf r15).bind fun z16 =>
  match z16 with
  | (r16) =>
  if r16 = (2 : Int32) then
  (if (p1 < 0 ∨ 40 ≤ (p1).toNatClampNeg) then none else
  (fm_askPart fl B_13 (yo, ya, (upd ys (p1).toNatClampNeg (2 : Int32)), yl, yt, yk, yc) (ya (p1).toNatClampNeg) r2).bind fun z19 =>
  match z19 with
  | (B_19, Y_19) =>
  some (B_19, O_13, J_13, V_13, Y_19))
  else
  some (B_13, O_13, J_13, (vf_13, vu_13, (2 : Int32)), Y))
  else
  some (B_13, O_13, J_13, V_13, Y)
set_option maxHeartbeats 4000000 in
set_option maxRecDepth 100000 in
theorem ok_fm_second {fl : Nat} {N : cN} {C : cC} {E : cE} {F : cF} {P : cP} {Q : cQ} {T : cT} {G : cG} {U : cU} {H : cH} {B : cB} {O : cO} {J : cJ} {V : cV} {Y : cY} {Z : cZ} {O9 : cO9} {k n : Nat} {p1 : Int32} {B' : cB} {O' : cO} {J' : cJ} {V' : cV} {Y' : cY} (h : fm_second fl G B O J V Y p1 = some (B', O', J', V', Y')) (D : Nat) (hD : 6 ≤ D) : am_Call D 102 [.ref 19, .int p1] (W9 N C E F P Q T G U H B O J V Y Z O9) k n (.inl none, W9 N C E F P Q T G U H B' O' J' V' Y' Z O9, k, n) := by
  unfold fm_second at h
  obtain ⟨D, rfl⟩ : ∃ D', D = D' + 1 := ⟨D - 1, by omega⟩
  have hD : 5 ≤ D := by omega
  refine am_call_run (by decide) (by decide) rfl (Nat.le_of_ble_eq_true rfl) (by decide) (L := [(0, .ref 19), (1, .int p1)]) rfl ?_
  obtain ⟨yo, ya, ys, yl, yt, yk, yc⟩ := Y
  try dsimp only at h
  by_cases g1 : (p1 < 0 ∨ 40 ≤ (p1).toNatClampNeg)
  · rw [if_pos g1] at h; cases h
  rw [if_neg g1] at h
  refine am_ev_st 8 (f' := (10, [(2, .int (ya (p1).toNatClampNeg)), (0, .ref 19), (1, .int p1)], [.int (1 : Int32), .int (ya (p1).toNatClampNeg), .ref 19], (W9 N C E F P Q T G U H B O J V (yo, ya, ys, yl, yt, yk, yc) Z O9), k, n)) (g := True ∧ True ∧ True ∧ vp_in (p1) 40 ∧ True ∧ True ∧ True ∧ True ∧ True) (by with_unfolding_all rfl) ⟨trivial, trivial, trivial, g1, trivial, trivial, trivial, trivial, trivial⟩ ?_
  replace h := Option.bind_eq_some_iff.mp h
  obtain ⟨r2, hc2, h⟩ := h
  try dsimp only at h
  refine am_ev_call (.invokevirtual 77) 82 4 853 [.ref 19, .int (ya (p1).toNatClampNeg), .int (1 : Int32)] [] rfl rfl rfl rfl (ok_fm_endOf hc2 D (by omega)) rfl ?_
  refine am_ev_st 4 (f' := (17, [(3, .int r2), (2, .int (ya (p1).toNatClampNeg)), (0, .ref 19), (1, .int p1)], [.int (0 : Int32), .int (ya (p1).toNatClampNeg), .ref 19], (W9 N C E F P Q T G U H B O J V (yo, ya, ys, yl, yt, yk, yc) Z O9), k, n)) (g := True ∧ True ∧ True ∧ True ∧ True) (by with_unfolding_all rfl) ⟨trivial, trivial, trivial, trivial, trivial⟩ ?_
  replace h := Option.bind_eq_some_iff.mp h
  obtain ⟨r3, hc3, h⟩ := h
  try dsimp only at h
  refine am_ev_call (.invokevirtual 69) 81 4 820 [.ref 19, .int (ya (p1).toNatClampNeg), .int (0 : Int32)] [] rfl rfl rfl rfl (ok_fm_at hc3 D (by omega)) rfl ?_
  replace h := Option.bind_eq_some_iff.mp h
  obtain ⟨r4, hc4, h⟩ := h
  try dsimp only at h
  refine am_ev_call (.invokestatic 80) 78 2 824 [.int r3] [] rfl rfl rfl rfl (ok_fm_kindOf hc4 D (by omega)) rfl ?_
  refine am_ev_st 2 (f' := am_br (r4 ≠ (4 : Int32)) 69 24 [(3, .int r2), (2, .int (ya (p1).toNatClampNeg)), (0, .ref 19), (1, .int p1)] [] (W9 N C E F P Q T G U H B O J V (yo, ya, ys, yl, yt, yk, yc) Z O9) k n) (g := True ∧ True ∧ True) (by with_unfolding_all rfl) ⟨trivial, trivial, trivial⟩ ?_
  by_cases c5 : r4 ≠ (4 : Int32)
  · rw [if_pos c5] at h
    refine am_ev_pos c5 ?_
    refine am_ev_st 8 (f' := (81, [(3, .int r2), (2, .int (ya (p1).toNatClampNeg)), (0, .ref 19), (1, .int p1)], [.int (yt - (1 : Int32)), .ref 19, .int p1, .ref 33], (W9 N C E F P Q T G U H B O J V (yo, ya, ys, yl, yt, yk, yc) Z O9), k, n)) (g := True ∧ True ∧ True ∧ True ∧ True ∧ True ∧ True ∧ True ∧ True) (by with_unfolding_all rfl) ⟨trivial, trivial, trivial, trivial, trivial, trivial, trivial, trivial, trivial⟩ ?_
    replace h := Option.bind_eq_some_iff.mp h
    obtain ⟨⟨r6, B_6, O_6, J_6, V_6⟩, hc6, h⟩ := h
    try dsimp only at h
    refine am_ev_call (.invokevirtual 171) 99 2 893 [.ref 19, .int (yt - (1 : Int32))] [.int p1, .ref 33] rfl rfl rfl rfl (ok_fm_levelIn hc6 D (by omega)) rfl ?_
    obtain ⟨vf_6, vu_6, vx_6⟩ := V_6
    try dsimp only at h
    by_cases g7 : (p1 < 0 ∨ 40 ≤ (p1).toNatClampNeg)
    · rw [if_pos g7] at h; cases h
    rw [if_neg g7] at h
    refine am_ev_st 4 (f' := am_br (vx_6 = 0) 93 89 [(3, .int r2), (2, .int (ya (p1).toNatClampNeg)), (0, .ref 19), (1, .int p1)] [] (W9 N C E F P Q T G U H B_6 O_6 J_6 (vf_6, vu_6, vx_6) (yo, ya, ys, (upd yl (p1).toNatClampNeg r6), yt, yk, yc) Z O9) k n) (g := vp_in (p1) 40 ∧ True ∧ True ∧ True ∧ True) (by with_unfolding_all rfl) ⟨g7, trivial, trivial, trivial, trivial⟩ ?_
    by_cases c8 : vx_6 = 0
    · rw [if_pos c8] at h
      refine am_ev_pos c8 ?_
      refine am_ev_st 7 (f' := (102, [(3, .int r2), (2, .int (ya (p1).toNatClampNeg)), (0, .ref 19), (1, .int p1)], [.int (1 : Int32), .int (ya (p1).toNatClampNeg), .int (yt - (1 : Int32)), .ref 19], (W9 N C E F P Q T G U H B_6 O_6 J_6 (vf_6, vu_6, vx_6) (yo, ya, ys, (upd yl (p1).toNatClampNeg r6), yt, yk, yc) Z O9), k, n)) (g := True ∧ True ∧ True ∧ True ∧ True ∧ True ∧ True ∧ True) (by with_unfolding_all rfl) ⟨trivial, trivial, trivial, trivial, trivial, trivial, trivial, trivial⟩ ?_
      replace h := Option.bind_eq_some_iff.mp h
      obtain ⟨B_9, hc9, h⟩ := h
      try dsimp only at h
      refine am_ev_call (.invokevirtual 141) 83 6 849 [.ref 19, .int (yt - (1 : Int32)), .int (ya (p1).toNatClampNeg), .int (1 : Int32)] [] rfl rfl rfl rfl (ok_fm_copyPart hc9 D (by omega)) rfl ?_
      by_cases g10 : (yk < 0 ∨ 40 ≤ (yk).toNatClampNeg)
      · rw [if_pos g10] at h; cases h
      rw [if_neg g10] at h
      by_cases g11 : (p1 < 0 ∨ 40 ≤ (p1).toNatClampNeg)
      · rw [if_pos g11] at h; cases h
      rw [if_neg g11] at h
      refine am_ev_st 23 (f' := (140, [(3, .int r2), (2, .int (ya (p1).toNatClampNeg)), (0, .ref 19), (1, .int p1)], [.int r2, .int (ya (p1).toNatClampNeg), .ref 19], (W9 N C E F P Q T G U H B_9 O_6 J_6 (vf_6, vu_6, vx_6) (yo, ya, (upd ys (p1).toNatClampNeg (2 : Int32)), (upd yl (p1).toNatClampNeg r6), yt, (yk + (1 : Int32)), (upd yc (yk).toNatClampNeg (yt - (1 : Int32)))) Z O9), k, n)) (g := True ∧ True ∧ True ∧ True ∧ True ∧ True ∧ True ∧ True ∧ vp_in (yk) 40 ∧ True ∧ True ∧ True ∧ True ∧ True ∧ True ∧ True ∧ True ∧ True ∧ True ∧ vp_in (p1) 40 ∧ True ∧ True ∧ True ∧ True) (by with_unfolding_all rfl) ⟨trivial, trivial, trivial, trivial, trivial, trivial, trivial, trivial, g10, trivial, trivial, trivial, trivial, trivial, trivial, trivial, trivial, trivial, trivial, g11, trivial, trivial, trivial, trivial⟩ ?_
      replace h := Option.bind_eq_some_iff.mp h
      obtain ⟨⟨B_12, Y_12⟩, hc12, h⟩ := h
      try dsimp only at h
      refine am_ev_call (.invokevirtual 168) 100 4 845 [.ref 19, .int (ya (p1).toNatClampNeg), .int r2] [] rfl rfl rfl rfl (ok_fm_askPart hc12 D (by omega)) rfl ?_
      cases h
      exact am_ev_vret 0 0 0 rfl rfl rfl
    · rw [if_neg c8] at h
      refine am_ev_neg c8 ?_
      cases h
      exact am_ev_vret 0 0 0 rfl rfl rfl
  · rw [if_neg c5] at h
    refine am_ev_neg c5 ?_
    refine am_ev_st 5 (f' := (34, [(3, .int r2), (2, .int (ya (p1).toNatClampNeg)), (0, .ref 19), (1, .int p1)], [.int (yt - (1 : Int32)), .ref 19], (W9 N C E F P Q T G U H B O J V (yo, ya, ys, yl, yt, yk, yc) Z O9), k, n)) (g := True ∧ True ∧ True ∧ True ∧ True ∧ True) (by with_unfolding_all rfl) ⟨trivial, trivial, trivial, trivial, trivial, trivial⟩ ?_
    replace h := Option.bind_eq_some_iff.mp h
    obtain ⟨⟨B_13, O_13, J_13, V_13⟩, hc13, h⟩ := h
    try dsimp only at h
    refine am_ev_call (.invokevirtual 134) 94 2 861 [.ref 19, .int (yt - (1 : Int32))] [] rfl rfl rfl rfl (ok_fm_toHead hc13 D (by omega)) rfl ?_
    obtain ⟨vf_13, vu_13, vx_13⟩ := V_13
    try dsimp only at h
    refine am_ev_st 3 (f' := am_br (vx_13 = 0) 45 41 [(3, .int r2), (2, .int (ya (p1).toNatClampNeg)), (0, .ref 19), (1, .int p1)] [] (W9 N C E F P Q T G U H B_13 O_13 J_13 (vf_13, vu_13, vx_13) (yo, ya, ys, yl, yt, yk, yc) Z O9) k n) (g := True ∧ True ∧ True ∧ True) (by with_unfolding_all rfl) ⟨trivial, trivial, trivial, trivial⟩ ?_
    by_cases c14 : vx_13 = 0
    · rw [if_pos c14] at h
      refine am_ev_pos c14 ?_
      refine am_ev_st 6 (f' := (53, [(3, .int r2), (2, .int (ya (p1).toNatClampNeg)), (0, .ref 19), (1, .int p1)], [.int (0 : Int32), .int (yt - (1 : Int32)), .ref 19], (W9 N C E F P Q T G U H B_13 O_13 J_13 (vf_13, vu_13, vx_13) (yo, ya, ys, yl, yt, yk, yc) Z O9), k, n)) (g := True ∧ True ∧ True ∧ True ∧ True ∧ True ∧ True) (by with_unfolding_all rfl) ⟨trivial, trivial, trivial, trivial, trivial, trivial, trivial⟩ ?_
      replace h := Option.bind_eq_some_iff.mp h
      obtain ⟨r15, hc15, h⟩ := h
      try dsimp only at h
      refine am_ev_call (.invokevirtual 69) 81 4 820 [.ref 19, .int (yt - (1 : Int32)), .int (0 : Int32)] [] rfl rfl rfl rfl (ok_fm_at hc15 D (by omega)) rfl ?_
      replace h := Option.bind_eq_some_iff.mp h
      obtain ⟨r16, hc16, h⟩ := h
      try dsimp only at h
      refine am_ev_call (.invokestatic 80) 78 2 824 [.int r15] [] rfl rfl rfl rfl (ok_fm_kindOf hc16 D (by omega)) rfl ?_
      refine am_ev_st 2 (f' := am_br (r16 = (2 : Int32)) 130 60 [(3, .int r2), (2, .int (ya (p1).toNatClampNeg)), (0, .ref 19), (1, .int p1)] [] (W9 N C E F P Q T G U H B_13 O_13 J_13 (vf_13, vu_13, vx_13) (yo, ya, ys, yl, yt, yk, yc) Z O9) k n) (g := True ∧ True ∧ True) (by with_unfolding_all rfl) ⟨trivial, trivial, trivial⟩ ?_
      by_cases c17 : r16 = (2 : Int32)
      · rw [if_pos c17] at h
        refine am_ev_pos c17 ?_
        by_cases g18 : (p1 < 0 ∨ 40 ≤ (p1).toNatClampNeg)
        · rw [if_pos g18] at h; cases h
        rw [if_neg g18] at h
        refine am_ev_st 8 (f' := (140, [(3, .int r2), (2, .int (ya (p1).toNatClampNeg)), (0, .ref 19), (1, .int p1)], [.int r2, .int (ya (p1).toNatClampNeg), .ref 19], (W9 N C E F P Q T G U H B_13 O_13 J_13 (vf_13, vu_13, vx_13) (yo, ya, (upd ys (p1).toNatClampNeg (2 : Int32)), yl, yt, yk, yc) Z O9), k, n)) (g := True ∧ True ∧ True ∧ True ∧ vp_in (p1) 40 ∧ True ∧ True ∧ True ∧ True) (by with_unfolding_all rfl) ⟨trivial, trivial, trivial, trivial, g18, trivial, trivial, trivial, trivial⟩ ?_
        replace h := Option.bind_eq_some_iff.mp h
        obtain ⟨⟨B_19, Y_19⟩, hc19, h⟩ := h
        try dsimp only at h
        refine am_ev_call (.invokevirtual 168) 100 4 845 [.ref 19, .int (ya (p1).toNatClampNeg), .int r2] [] rfl rfl rfl rfl (ok_fm_askPart hc19 D (by omega)) rfl ?_
        cases h
        exact am_ev_vret 0 0 0 rfl rfl rfl
      · rw [if_neg c17] at h
        refine am_ev_neg c17 ?_
        refine am_ev_st 3 (f' := (68, [(3, .int r2), (2, .int (ya (p1).toNatClampNeg)), (0, .ref 19), (1, .int p1)], [], (W9 N C E F P Q T G U H B_13 O_13 J_13 (vf_13, vu_13, (2 : Int32)) (yo, ya, ys, yl, yt, yk, yc) Z O9), k, n)) (g := True ∧ True ∧ True ∧ True) (by with_unfolding_all rfl) ⟨trivial, trivial, trivial, trivial⟩ ?_
        cases h
        exact am_ev_vret 0 0 0 rfl rfl rfl
    · rw [if_neg c14] at h
      refine am_ev_neg c14 ?_
      cases h
      exact am_ev_vret 0 0 0 rfl rfl rfl
def lp_fm_pushRest_2 (fl : Nat) : Nat → cB → cZ → Int32 → Int32 → Int32 → Option (cZ)
  | 0, _, _, _, _, _ => none
  | w + 1, B, Z, v1, v2, v3 =>
    match B with
    | (br, bl) =>
    if (v1 < 0 ∨ 96 ≤ (v1).toNatClampNeg) then none else
    if (bl (v1).toNatClampNeg) ≤ v3 then
    (some Z)
    else
    match Z with
    | (zw, zc, zz, zl, zr) =>
    (fm_at B v1 v3).bind fun z3 =>
    match z3 with
    | (r3) =>
    if (zc < 0 ∨ 4000 ≤ (zc).toNatClampNeg) then none else
    lp_fm_pushRest_2 fl w B (zw, (zc + (1 : Int32)), (upd zz (zc).toNatClampNeg r3), zl, zr) v1 v2 (v3 + (1 : Int32))
def fm_pushRest (fl : Nat) (B : cB) (Z : cZ) (p1 p2 : Int32) : Option (cZ) :=
  lp_fm_pushRest_2 fl fl B Z p1 p2 p2
set_option maxHeartbeats 4000000 in
set_option maxRecDepth 100000 in
theorem ok_lp_fm_pushRest_2 {fl : Nat} : ∀ {w : Nat} {N : cN} {C : cC} {E : cE} {F : cF} {P : cP} {Q : cQ} {T : cT} {G : cG} {U : cU} {H : cH} {B : cB} {O : cO} {J : cJ} {V : cV} {Y : cY} {Z : cZ} {O9 : cO9} {k n : Nat} {v1 : Int32} {v2 : Int32} {v3 : Int32} {Z' : cZ} (h : lp_fm_pushRest_2 fl w B Z v1 v2 v3 = some Z') (D : Nat) (hD : 1 ≤ D), am_Ev D 95 0 (fun _ => 0) (2, [(0, .ref 19), (1, .int v1), (2, .int v2), (3, .int v3)], [], (W9 N C E F P Q T G U H B O J V Y Z O9), k, n) (.inl none, W9 N C E F P Q T G U H B O J V Y Z' O9, k, n) := by
  intro w
  induction w with
  | zero => intros; rename_i h _ _; cases h
  | succ w ih0 =>
    intro N C E F P Q T G U H B O J V Y Z O9 k n v1 v2 v3 Z' h D hD
    have ih := fun {N} {C} {E} {F} {P} {Q} {T} {G} {U} {H} {B} {O} {J} {V} {Y} {Z} {O9} {k} {n} {v1} {v2} {v3} {Z'} h => @ih0 N C E F P Q T G U H B O J V Y Z O9 k n v1 v2 v3 Z' h D hD
    unfold lp_fm_pushRest_2 at h
    obtain ⟨br, bl⟩ := B
    try dsimp only at h
    by_cases g1 : (v1 < 0 ∨ 96 ≤ (v1).toNatClampNeg)
    · rw [if_pos g1] at h; cases h
    rw [if_neg g1] at h
    refine am_ev_st 6 (f' := am_br ((bl (v1).toNatClampNeg) ≤ v3) 43 9 [(0, .ref 19), (1, .int v1), (2, .int v2), (3, .int v3)] [] (W9 N C E F P Q T G U H (br, bl) O J V Y Z O9) k n) (g := True ∧ True ∧ True ∧ True ∧ vp_in (v1) 96 ∧ True ∧ True) (by with_unfolding_all rfl) ⟨trivial, trivial, trivial, trivial, g1, trivial, trivial⟩ ?_
    by_cases c2 : (bl (v1).toNatClampNeg) ≤ v3
    · rw [if_pos c2] at h
      refine am_ev_pos c2 ?_
      cases h
      exact am_ev_vret 0 0 0 rfl rfl rfl
    · rw [if_neg c2] at h
      refine am_ev_neg c2 ?_
      obtain ⟨zw, zc, zz, zl, zr⟩ := Z
      try dsimp only at h
      refine am_ev_st 7 (f' := (23, [(0, .ref 19), (1, .int v1), (2, .int v2), (3, .int v3)], [.int v3, .int v1, .ref 19, .int zc, .ref 35], (W9 N C E F P Q T G U H (br, bl) O J V Y (zw, zc, zz, zl, zr) O9), k, n)) (g := True ∧ True ∧ True ∧ True ∧ True ∧ True ∧ True ∧ True) (by with_unfolding_all rfl) ⟨trivial, trivial, trivial, trivial, trivial, trivial, trivial, trivial⟩ ?_
      replace h := Option.bind_eq_some_iff.mp h
      obtain ⟨r3, hc3, h⟩ := h
      try dsimp only at h
      refine am_ev_call (.invokevirtual 69) 81 4 820 [.ref 19, .int v1, .int v3] [.int zc, .ref 35] rfl rfl rfl rfl (ok_fm_at hc3 D (by omega)) rfl ?_
      by_cases g4 : (zc < 0 ∨ 4000 ≤ (zc).toNatClampNeg)
      · rw [if_pos g4] at h; cases h
      rw [if_neg g4] at h
      refine am_ev_st 9 (f' := (2, [(3, .int (v3 + (1 : Int32))), (0, .ref 19), (1, .int v1), (2, .int v2)], [], (W9 N C E F P Q T G U H (br, bl) O J V Y (zw, (zc + (1 : Int32)), (upd zz (zc).toNatClampNeg r3), zl, zr) O9), k, n)) (g := vp_in (zc) 4000 ∧ True ∧ True ∧ True ∧ True ∧ True ∧ True ∧ True ∧ True ∧ True) (by with_unfolding_all rfl) ⟨g4, trivial, trivial, trivial, trivial, trivial, trivial, trivial, trivial, trivial⟩ ?_
      refine am_ev_drop [1, 2, 3, 0] rfl rfl ?_
      exact ih h
set_option maxHeartbeats 4000000 in
set_option maxRecDepth 100000 in
theorem ok_fm_pushRest {fl : Nat} {N : cN} {C : cC} {E : cE} {F : cF} {P : cP} {Q : cQ} {T : cT} {G : cG} {U : cU} {H : cH} {B : cB} {O : cO} {J : cJ} {V : cV} {Y : cY} {Z : cZ} {O9 : cO9} {k n : Nat} {p1 p2 : Int32} {Z' : cZ} (h : fm_pushRest fl B Z p1 p2 = some Z') (D : Nat) (hD : 2 ≤ D) : am_Call D 95 [.ref 19, .int p1, .int p2] (W9 N C E F P Q T G U H B O J V Y Z O9) k n (.inl none, W9 N C E F P Q T G U H B O J V Y Z' O9, k, n) := by
  unfold fm_pushRest at h
  obtain ⟨D, rfl⟩ : ∃ D', D = D' + 1 := ⟨D - 1, by omega⟩
  have hD : 1 ≤ D := by omega
  refine am_call_run (by decide) (by decide) rfl (Nat.le_of_ble_eq_true rfl) (by decide) (L := [(0, .ref 19), (1, .int p1), (2, .int p2)]) rfl ?_
  refine am_ev_st 2 (f' := (2, [(3, .int p2), (0, .ref 19), (1, .int p1), (2, .int p2)], [], (W9 N C E F P Q T G U H B O J V Y Z O9), k, n)) (g := True ∧ True ∧ True) (by with_unfolding_all rfl) ⟨trivial, trivial, trivial⟩ ?_
  refine am_ev_drop [1, 2, 3, 0] rfl rfl ?_
  exact ok_lp_fm_pushRest_2 h D hD
def lp_fm_pop_12 (fl : Nat) : Nat → cB → cZ → Int32 → Int32 → Int32 → Option (cB × cZ)
  | 0, _, _, _, _, _ => none
  | w + 1, B, Z, v1, v2, v3 =>
    if v2 ≤ v3 then
    (match B with
    | (br, bl) =>
    if (v1 < 0 ∨ 96 ≤ (v1).toNatClampNeg) then none else
    some ((br, (upd bl (v1).toNatClampNeg v2)), Z))
    else
    match Z with
    | (zw, zc, zz, zl, zr) =>
    match B with
    | (br, bl) =>
    if ((zc + v3) < 0 ∨ 4000 ≤ ((zc + v3)).toNatClampNeg) then none else
    if ((((60 : Int32) * v1) + v3) < 0 ∨ 5760 ≤ ((((60 : Int32) * v1) + v3)).toNatClampNeg) then none else
    lp_fm_pop_12 fl w ((upd br ((((60 : Int32) * v1) + v3)).toNatClampNeg (zz ((zc + v3)).toNatClampNeg)), bl) Z v1 v2 (v3 + (1 : Int32))
def fm_pop (fl : Nat) (B : cB) (Z : cZ) (p1 p2 : Int32) : Option (cB × cZ) :=
  match Z with
  | (zw, zc, zz, zl, zr) =>
  lp_fm_pop_12 fl fl B (zw, (zc - p2), zz, zl, zr) p1 p2 (0 : Int32)
set_option maxHeartbeats 4000000 in
set_option maxRecDepth 100000 in
theorem ok_lp_fm_pop_12 {fl : Nat} : ∀ {w : Nat} {N : cN} {C : cC} {E : cE} {F : cF} {P : cP} {Q : cQ} {T : cT} {G : cG} {U : cU} {H : cH} {B : cB} {O : cO} {J : cJ} {V : cV} {Y : cY} {Z : cZ} {O9 : cO9} {k n : Nat} {v1 : Int32} {v2 : Int32} {v3 : Int32} {B' : cB} {Z' : cZ} (h : lp_fm_pop_12 fl w B Z v1 v2 v3 = some (B', Z')) (D : Nat) (hD : 0 ≤ D), am_Ev D 96 0 (fun _ => 0) (12, [(0, .ref 19), (1, .int v1), (2, .int v2), (3, .int v3)], [], (W9 N C E F P Q T G U H B O J V Y Z O9), k, n) (.inl none, W9 N C E F P Q T G U H B' O J V Y Z' O9, k, n) := by
  intro w
  induction w with
  | zero => intros; rename_i h _ _; cases h
  | succ w ih0 =>
    intro N C E F P Q T G U H B O J V Y Z O9 k n v1 v2 v3 B' Z' h D hD
    have ih := fun {N} {C} {E} {F} {P} {Q} {T} {G} {U} {H} {B} {O} {J} {V} {Y} {Z} {O9} {k} {n} {v1} {v2} {v3} {B'} {Z'} h => @ih0 N C E F P Q T G U H B O J V Y Z O9 k n v1 v2 v3 B' Z' h D hD
    unfold lp_fm_pop_12 at h
    refine am_ev_st 3 (f' := am_br (v2 ≤ v3) 45 14 [(0, .ref 19), (1, .int v1), (2, .int v2), (3, .int v3)] [] (W9 N C E F P Q T G U H B O J V Y Z O9) k n) (g := True ∧ True ∧ True ∧ True) (by with_unfolding_all rfl) ⟨trivial, trivial, trivial, trivial⟩ ?_
    by_cases c1 : v2 ≤ v3
    · rw [if_pos c1] at h
      refine am_ev_pos c1 ?_
      obtain ⟨br, bl⟩ := B
      try dsimp only at h
      by_cases g2 : (v1 < 0 ∨ 96 ≤ (v1).toNatClampNeg)
      · rw [if_pos g2] at h; cases h
      rw [if_neg g2] at h
      refine am_ev_st 5 (f' := (52, [(0, .ref 19), (1, .int v1), (2, .int v2), (3, .int v3)], [], (W9 N C E F P Q T G U H (br, (upd bl (v1).toNatClampNeg v2)) O J V Y Z O9), k, n)) (g := True ∧ True ∧ True ∧ True ∧ vp_in (v1) 96 ∧ True) (by with_unfolding_all rfl) ⟨trivial, trivial, trivial, trivial, g2, trivial⟩ ?_
      cases h
      exact am_ev_vret 0 0 0 rfl rfl rfl
    · rw [if_neg c1] at h
      refine am_ev_neg c1 ?_
      obtain ⟨zw, zc, zz, zl, zr⟩ := Z
      try dsimp only at h
      obtain ⟨br, bl⟩ := B
      try dsimp only at h
      by_cases g3 : ((zc + v3) < 0 ∨ 4000 ≤ ((zc + v3)).toNatClampNeg)
      · rw [if_pos g3] at h; cases h
      rw [if_neg g3] at h
      by_cases g4 : ((((60 : Int32) * v1) + v3) < 0 ∨ 5760 ≤ ((((60 : Int32) * v1) + v3)).toNatClampNeg)
      · rw [if_pos g4] at h; cases h
      rw [if_neg g4] at h
      refine am_ev_st 17 (f' := (12, [(3, .int (v3 + (1 : Int32))), (0, .ref 19), (1, .int v1), (2, .int v2)], [], (W9 N C E F P Q T G U H ((upd br ((((60 : Int32) * v1) + v3)).toNatClampNeg (zz ((zc + v3)).toNatClampNeg)), bl) O J V Y (zw, zc, zz, zl, zr) O9), k, n)) (g := True ∧ True ∧ True ∧ True ∧ True ∧ True ∧ True ∧ True ∧ True ∧ True ∧ True ∧ True ∧ True ∧ vp_in ((zc + v3)) 4000 ∧ vp_in ((((60 : Int32) * v1) + v3)) 5760 ∧ True ∧ True ∧ True) (by with_unfolding_all rfl) ⟨trivial, trivial, trivial, trivial, trivial, trivial, trivial, trivial, trivial, trivial, trivial, trivial, trivial, g3, g4, trivial, trivial, trivial⟩ ?_
      refine am_ev_drop [1, 2, 3, 0] rfl rfl ?_
      exact ih h
set_option maxHeartbeats 4000000 in
set_option maxRecDepth 100000 in
theorem ok_fm_pop {fl : Nat} {N : cN} {C : cC} {E : cE} {F : cF} {P : cP} {Q : cQ} {T : cT} {G : cG} {U : cU} {H : cH} {B : cB} {O : cO} {J : cJ} {V : cV} {Y : cY} {Z : cZ} {O9 : cO9} {k n : Nat} {p1 p2 : Int32} {B' : cB} {Z' : cZ} (h : fm_pop fl B Z p1 p2 = some (B', Z')) (D : Nat) (hD : 1 ≤ D) : am_Call D 96 [.ref 19, .int p1, .int p2] (W9 N C E F P Q T G U H B O J V Y Z O9) k n (.inl none, W9 N C E F P Q T G U H B' O J V Y Z' O9, k, n) := by
  unfold fm_pop at h
  obtain ⟨D, rfl⟩ : ∃ D', D = D' + 1 := ⟨D - 1, by omega⟩
  have hD : 0 ≤ D := by omega
  refine am_call_run (by decide) (by decide) rfl (Nat.le_of_ble_eq_true rfl) (by decide) (L := [(0, .ref 19), (1, .int p1), (2, .int p2)]) rfl ?_
  obtain ⟨zw, zc, zz, zl, zr⟩ := Z
  try dsimp only at h
  refine am_ev_st 8 (f' := (12, [(3, .int (0 : Int32)), (0, .ref 19), (1, .int p1), (2, .int p2)], [], (W9 N C E F P Q T G U H B O J V Y (zw, (zc - p2), zz, zl, zr) O9), k, n)) (g := True ∧ True ∧ True ∧ True ∧ True ∧ True ∧ True ∧ True ∧ True) (by with_unfolding_all rfl) ⟨trivial, trivial, trivial, trivial, trivial, trivial, trivial, trivial, trivial⟩ ?_
  refine am_ev_drop [1, 2, 3, 0] rfl rfl ?_
  exact ok_lp_fm_pop_12 h D hD
def lp_fm_areSame_12 (fl : Nat) : Nat → cG → cB → cO → cJ → cV → cZ → Int32 → Option (Bool × cB × cO × cJ × cV × cZ)
  | 0, _, _, _, _, _, _, _ => none
  | w + 1, G, B, O, J, V, Z, v1 =>
    if v1 = 0 then
    (some (true, B, O, J, V, Z))
    else
    (fm_toHead fl G B O J V (0 : Int32)).bind fun z2 =>
    match z2 with
    | (B_2, O_2, J_2, V_2) =>
    match V_2 with
    | (vf_2, vu_2, vx_2) =>
    if vx_2 ≠ 0 then
    (if vx_2 = 0 then
    ((fm_at B_2 (0 : Int32) (0 : Int32)).bind fun z5 =>
    match z5 with
    | (r5) =>
    (fm_kindOf r5).bind fun z6 =>
    match z6 with
    | (r6) =>
    (fm_at B_2 (1 : Int32) (0 : Int32)).bind fun z7 =>
    match z7 with
    | (r7) =>
    (fm_kindOf r7).bind fun z8 =>
    match z8 with
    | (r8) =>
    if r6 = r8 then
    ((fm_hasParts r5).bind fun z10 =>
    match z10 with
    | (r10) =>
    if (am_bz r10) ≠ 0 then
    ((fm_hasParts r5).bind fun z12 =>
    match z12 with
    | (r12) =>
    if (am_bz r12) = 0 then
    (match Z with
    | (zw, zc, zz, zl, zr) =>
    if zw ≤ 0 then
    (if (0 : Int32) ≠ 0 then
    (if ((zw - (1 : Int32)) < 0 ∨ 400 ≤ ((zw - (1 : Int32))).toNatClampNeg) then none else
    (fm_pop fl B_2 ((zw - (1 : Int32)), zc, zz, zl, zr) (1 : Int32) (zr ((zw - (1 : Int32))).toNatClampNeg)).bind fun z17 =>
    match z17 with
    | (B_17, Z_17) =>
    match Z_17 with
    | (zw_17, zc_17, zz_17, zl_17, zr_17) =>
    if (zw_17 < 0 ∨ 400 ≤ (zw_17).toNatClampNeg) then none else
    (fm_pop fl B_17 Z_17 (0 : Int32) (zl_17 (zw_17).toNatClampNeg)).bind fun z19 =>
    match z19 with
    | (B_19, Z_19) =>
    lp_fm_areSame_12 fl w G B_19 O_2 J_2 V_2 Z_19 (0 : Int32))
    else
    lp_fm_areSame_12 fl w G B_2 O_2 J_2 V_2 Z (0 : Int32))
    else
    if (1 : Int32) ≠ 0 then
    (if ((zw - (1 : Int32)) < 0 ∨ 400 ≤ ((zw - (1 : Int32))).toNatClampNeg) then none else
    (fm_pop fl B_2 ((zw - (1 : Int32)), zc, zz, zl, zr) (1 : Int32) (zr ((zw - (1 : Int32))).toNatClampNeg)).bind fun z22 =>
    match z22 with
    | (B_22, Z_22) =>
    match Z_22 with
    | (zw_22, zc_22, zz_22, zl_22, zr_22) =>
    if (zw_22 < 0 ∨ 400 ≤ (zw_22).toNatClampNeg) then none else
    (fm_pop fl B_22 Z_22 (0 : Int32) (zl_22 (zw_22).toNatClampNeg)).bind fun z24 =>
    match z24 with
    | (B_24, Z_24) =>
    lp_fm_areSame_12 fl w G B_24 O_2 J_2 V_2 Z_24 (1 : Int32))
    else
    lp_fm_areSame_12 fl w G B_2 O_2 J_2 V_2 Z (1 : Int32))
    else
    (fm_endOf fl B_2 (0 : Int32) (1 : Int32)).bind fun z25 =>
    match z25 with
    | (r25) =>
    (fm_endOf fl B_2 (1 : Int32) (1 : Int32)).bind fun z26 =>
    match z26 with
    | (r26) =>
    match Z with
    | (zw, zc, zz, zl, zr) =>
    match B_2 with
    | (br_2, bl_2) =>
    if ((0 : Int32) < 0 ∨ 96 ≤ ((0 : Int32)).toNatClampNeg) then none else
    if (zw < 0 ∨ 400 ≤ (zw).toNatClampNeg) then none else
    if ((1 : Int32) < 0 ∨ 96 ≤ ((1 : Int32)).toNatClampNeg) then none else
    if (zw < 0 ∨ 400 ≤ (zw).toNatClampNeg) then none else
    (fm_pushRest fl B_2 (zw, zc, zz, (upd zl (zw).toNatClampNeg ((bl_2 ((0 : Int32)).toNatClampNeg) - r25)), (upd zr (zw).toNatClampNeg ((bl_2 ((1 : Int32)).toNatClampNeg) - r26))) (0 : Int32) r25).bind fun z31 =>
    match z31 with
    | (Z_31) =>
    (fm_pushRest fl B_2 Z_31 (1 : Int32) r26).bind fun z32 =>
    match z32 with
    | (Z_32) =>
    match Z_32 with
    | (zw_32, zc_32, zz_32, zl_32, zr_32) =>
    (fm_copyPart fl B_2 (3 : Int32) (0 : Int32) (1 : Int32)).bind fun z33 =>
    match z33 with
    | (B_33) =>
    (fm_copy fl B_33 (0 : Int32) (3 : Int32)).bind fun z34 =>
    match z34 with
    | (B_34) =>
    (fm_copyPart fl B_34 (3 : Int32) (1 : Int32) (1 : Int32)).bind fun z35 =>
    match z35 with
    | (B_35) =>
    (fm_copy fl B_35 (1 : Int32) (3 : Int32)).bind fun z36 =>
    match z36 with
    | (B_36) =>
    lp_fm_areSame_12 fl w G B_36 O_2 J_2 V_2 ((zw_32 + (1 : Int32)), zc_32, zz_32, zl_32, zr_32) v1)
    else
    (fm_at B_2 (1 : Int32) (0 : Int32)).bind fun z37 =>
    match z37 with
    | (r37) =>
    if r5 = r37 then
    ((fm_hasParts r5).bind fun z39 =>
    match z39 with
    | (r39) =>
    if (am_bz r39) = 0 then
    (match Z with
    | (zw, zc, zz, zl, zr) =>
    if zw ≤ 0 then
    (if (0 : Int32) ≠ 0 then
    (if ((zw - (1 : Int32)) < 0 ∨ 400 ≤ ((zw - (1 : Int32))).toNatClampNeg) then none else
    (fm_pop fl B_2 ((zw - (1 : Int32)), zc, zz, zl, zr) (1 : Int32) (zr ((zw - (1 : Int32))).toNatClampNeg)).bind fun z44 =>
    match z44 with
    | (B_44, Z_44) =>
    match Z_44 with
    | (zw_44, zc_44, zz_44, zl_44, zr_44) =>
    if (zw_44 < 0 ∨ 400 ≤ (zw_44).toNatClampNeg) then none else
    (fm_pop fl B_44 Z_44 (0 : Int32) (zl_44 (zw_44).toNatClampNeg)).bind fun z46 =>
    match z46 with
    | (B_46, Z_46) =>
    lp_fm_areSame_12 fl w G B_46 O_2 J_2 V_2 Z_46 (0 : Int32))
    else
    lp_fm_areSame_12 fl w G B_2 O_2 J_2 V_2 Z (0 : Int32))
    else
    if (1 : Int32) ≠ 0 then
    (if ((zw - (1 : Int32)) < 0 ∨ 400 ≤ ((zw - (1 : Int32))).toNatClampNeg) then none else
    (fm_pop fl B_2 ((zw - (1 : Int32)), zc, zz, zl, zr) (1 : Int32) (zr ((zw - (1 : Int32))).toNatClampNeg)).bind fun z49 =>
    match z49 with
    | (B_49, Z_49) =>
    match Z_49 with
    | (zw_49, zc_49, zz_49, zl_49, zr_49) =>
    if (zw_49 < 0 ∨ 400 ≤ (zw_49).toNatClampNeg) then none else
    (fm_pop fl B_49 Z_49 (0 : Int32) (zl_49 (zw_49).toNatClampNeg)).bind fun z51 =>
    match z51 with
    | (B_51, Z_51) =>
    lp_fm_areSame_12 fl w G B_51 O_2 J_2 V_2 Z_51 (1 : Int32))
    else
    lp_fm_areSame_12 fl w G B_2 O_2 J_2 V_2 Z (1 : Int32))
    else
    (fm_endOf fl B_2 (0 : Int32) (1 : Int32)).bind fun z52 =>
    match z52 with
    | (r52) =>
    (fm_endOf fl B_2 (1 : Int32) (1 : Int32)).bind fun z53 =>
    match z53 with
    | (r53) =>
    match Z with
    | (zw, zc, zz, zl, zr) =>
    match B_2 with
    | (br_2, bl_2) =>
    if ((0 : Int32) < 0 ∨ 96 ≤ ((0 : Int32)).toNatClampNeg) then none else
    if (zw < 0 ∨ 400 ≤ (zw).toNatClampNeg) then none else
    if ((1 : Int32) < 0 ∨ 96 ≤ ((1 : Int32)).toNatClampNeg) then none else
    if (zw < 0 ∨ 400 ≤ (zw).toNatClampNeg) then none else
    (fm_pushRest fl B_2 (zw, zc, zz, (upd zl (zw).toNatClampNeg ((bl_2 ((0 : Int32)).toNatClampNeg) - r52)), (upd zr (zw).toNatClampNeg ((bl_2 ((1 : Int32)).toNatClampNeg) - r53))) (0 : Int32) r52).bind fun z58 =>
    match z58 with
    | (Z_58) =>
    (fm_pushRest fl B_2 Z_58 (1 : Int32) r53).bind fun z59 =>
    match z59 with
    | (Z_59) =>
    match Z_59 with
    | (zw_59, zc_59, zz_59, zl_59, zr_59) =>
    (fm_copyPart fl B_2 (3 : Int32) (0 : Int32) (1 : Int32)).bind fun z60 =>
    match z60 with
    | (B_60) =>
    (fm_copy fl B_60 (0 : Int32) (3 : Int32)).bind fun z61 =>
    match z61 with
    | (B_61) =>
    (fm_copyPart fl B_61 (3 : Int32) (1 : Int32) (1 : Int32)).bind fun z62 =>
    match z62 with
    | (B_62) =>
    (fm_copy fl B_62 (1 : Int32) (3 : Int32)).bind fun z63 =>
    match z63 with
    | (B_63) =>
    lp_fm_areSame_12 fl w G B_63 O_2 J_2 V_2 ((zw_59 + (1 : Int32)), zc_59, zz_59, zl_59, zr_59) v1)
    else
    some (false, B_2, O_2, J_2, V_2, Z))
    else
    some (false, B_2, O_2, J_2, V_2, Z))
    else
    some (false, B_2, O_2, J_2, V_2, Z))
    else
    (fm_toHead fl G B_2 O_2 J_2 V_2 (1 : Int32)).bind fun z64 =>
    match z64 with
    | (B_64, O_64, J_64, V_64) =>
    match V_64 with
    | (vf_64, vu_64, vx_64) =>
    if vx_64 = 0 then
    ((fm_at B_64 (0 : Int32) (0 : Int32)).bind fun z66 =>
    match z66 with
    | (r66) =>
    (fm_kindOf r66).bind fun z67 =>
    match z67 with
    | (r67) =>
    (fm_at B_64 (1 : Int32) (0 : Int32)).bind fun z68 =>
    match z68 with
    | (r68) =>
    (fm_kindOf r68).bind fun z69 =>
    match z69 with
    | (r69) =>
    if r67 = r69 then
    ((fm_hasParts r66).bind fun z71 =>
    match z71 with
    | (r71) =>
    if (am_bz r71) ≠ 0 then
    ((fm_hasParts r66).bind fun z73 =>
    match z73 with
    | (r73) =>
    if (am_bz r73) = 0 then
    (match Z with
    | (zw, zc, zz, zl, zr) =>
    if zw ≤ 0 then
    (if (0 : Int32) ≠ 0 then
    (if ((zw - (1 : Int32)) < 0 ∨ 400 ≤ ((zw - (1 : Int32))).toNatClampNeg) then none else
    (fm_pop fl B_64 ((zw - (1 : Int32)), zc, zz, zl, zr) (1 : Int32) (zr ((zw - (1 : Int32))).toNatClampNeg)).bind fun z78 =>
    match z78 with
    | (B_78, Z_78) =>
    match Z_78 with
    | (zw_78, zc_78, zz_78, zl_78, zr_78) =>
    if (zw_78 < 0 ∨ 400 ≤ (zw_78).toNatClampNeg) then none else
    (fm_pop fl B_78 Z_78 (0 : Int32) (zl_78 (zw_78).toNatClampNeg)).bind fun z80 =>
    match z80 with
    | (B_80, Z_80) =>
    lp_fm_areSame_12 fl w G B_80 O_64 J_64 V_64 Z_80 (0 : Int32))
    else
    lp_fm_areSame_12 fl w G B_64 O_64 J_64 V_64 Z (0 : Int32))
    else
    if (1 : Int32) ≠ 0 then
    (if ((zw - (1 : Int32)) < 0 ∨ 400 ≤ ((zw - (1 : Int32))).toNatClampNeg) then none else
    (fm_pop fl B_64 ((zw - (1 : Int32)), zc, zz, zl, zr) (1 : Int32) (zr ((zw - (1 : Int32))).toNatClampNeg)).bind fun z83 =>
    match z83 with
    | (B_83, Z_83) =>
    match Z_83 with
    | (zw_83, zc_83, zz_83, zl_83, zr_83) =>
    if (zw_83 < 0 ∨ 400 ≤ (zw_83).toNatClampNeg) then none else
    (fm_pop fl B_83 Z_83 (0 : Int32) (zl_83 (zw_83).toNatClampNeg)).bind fun z85 =>
    match z85 with
    | (B_85, Z_85) =>
    lp_fm_areSame_12 fl w G B_85 O_64 J_64 V_64 Z_85 (1 : Int32))
    else
    lp_fm_areSame_12 fl w G B_64 O_64 J_64 V_64 Z (1 : Int32))
    else
    (fm_endOf fl B_64 (0 : Int32) (1 : Int32)).bind fun z86 =>
    match z86 with
    | (r86) =>
    (fm_endOf fl B_64 (1 : Int32) (1 : Int32)).bind fun z87 =>
    match z87 with
    | (r87) =>
    match Z with
    | (zw, zc, zz, zl, zr) =>
    match B_64 with
    | (br_64, bl_64) =>
    if ((0 : Int32) < 0 ∨ 96 ≤ ((0 : Int32)).toNatClampNeg) then none else
    if (zw < 0 ∨ 400 ≤ (zw).toNatClampNeg) then none else
    if ((1 : Int32) < 0 ∨ 96 ≤ ((1 : Int32)).toNatClampNeg) then none else
    if (zw < 0 ∨ 400 ≤ (zw).toNatClampNeg) then none else
    (fm_pushRest fl B_64 (zw, zc, zz, (upd zl (zw).toNatClampNeg ((bl_64 ((0 : Int32)).toNatClampNeg) - r86)), (upd zr (zw).toNatClampNeg ((bl_64 ((1 : Int32)).toNatClampNeg) - r87))) (0 : Int32) r86).bind fun z92 =>
    match z92 with
    | (Z_92) =>
    (fm_pushRest fl B_64 Z_92 (1 : Int32) r87).bind fun z93 =>
    match z93 with
    | (Z_93) =>
    match Z_93 with
    | (zw_93, zc_93, zz_93, zl_93, zr_93) =>
    (fm_copyPart fl B_64 (3 : Int32) (0 : Int32) (1 : Int32)).bind fun z94 =>
    match z94 with
    | (B_94) =>
    (fm_copy fl B_94 (0 : Int32) (3 : Int32)).bind fun z95 =>
    match z95 with
    | (B_95) =>
    (fm_copyPart fl B_95 (3 : Int32) (1 : Int32) (1 : Int32)).bind fun z96 =>
    match z96 with
    | (B_96) =>
    (fm_copy fl B_96 (1 : Int32) (3 : Int32)).bind fun z97 =>
    match z97 with
    | (B_97) =>
    lp_fm_areSame_12 fl w G B_97 O_64 J_64 V_64 ((zw_93 + (1 : Int32)), zc_93, zz_93, zl_93, zr_93) v1)
    else
    (fm_at B_64 (1 : Int32) (0 : Int32)).bind fun z98 =>
    match z98 with
    | (r98) =>
    if r66 = r98 then
    ((fm_hasParts r66).bind fun z100 =>
    match z100 with
    | (r100) =>
    if (am_bz r100) = 0 then
    (match Z with
    | (zw, zc, zz, zl, zr) =>
    if zw ≤ 0 then
    (if (0 : Int32) ≠ 0 then
    (if ((zw - (1 : Int32)) < 0 ∨ 400 ≤ ((zw - (1 : Int32))).toNatClampNeg) then none else
    (fm_pop fl B_64 ((zw - (1 : Int32)), zc, zz, zl, zr) (1 : Int32) (zr ((zw - (1 : Int32))).toNatClampNeg)).bind fun z105 =>
    match z105 with
    | (B_105, Z_105) =>
    match Z_105 with
    | (zw_105, zc_105, zz_105, zl_105, zr_105) =>
    if (zw_105 < 0 ∨ 400 ≤ (zw_105).toNatClampNeg) then none else
    (fm_pop fl B_105 Z_105 (0 : Int32) (zl_105 (zw_105).toNatClampNeg)).bind fun z107 =>
    match z107 with
    | (B_107, Z_107) =>
    lp_fm_areSame_12 fl w G B_107 O_64 J_64 V_64 Z_107 (0 : Int32))
    else
    lp_fm_areSame_12 fl w G B_64 O_64 J_64 V_64 Z (0 : Int32))
    else
    if (1 : Int32) ≠ 0 then
    (if ((zw - (1 : Int32)) < 0 ∨ 400 ≤ ((zw - (1 : Int32))).toNatClampNeg) then none else
    (fm_pop fl B_64 ((zw - (1 : Int32)), zc, zz, zl, zr) (1 : Int32) (zr ((zw - (1 : Int32))).toNatClampNeg)).bind fun z110 =>
    match z110 with
    | (B_110, Z_110) =>
    match Z_110 with
    | (zw_110, zc_110, zz_110, zl_110, zr_110) =>
    if (zw_110 < 0 ∨ 400 ≤ (zw_110).toNatClampNeg) then none else
    (fm_pop fl B_110 Z_110 (0 : Int32) (zl_110 (zw_110).toNatClampNeg)).bind fun z112 =>
    match z112 with
    | (B_112, Z_112) =>
    lp_fm_areSame_12 fl w G B_112 O_64 J_64 V_64 Z_112 (1 : Int32))
    else
    lp_fm_areSame_12 fl w G B_64 O_64 J_64 V_64 Z (1 : Int32))
    else
    (fm_endOf fl B_64 (0 : Int32) (1 : Int32)).bind fun z113 =>
    match z113 with
    | (r113) =>
    (fm_endOf fl B_64 (1 : Int32) (1 : Int32)).bind fun z114 =>
    match z114 with
    | (r114) =>
    match Z with
    | (zw, zc, zz, zl, zr) =>
    match B_64 with
    | (br_64, bl_64) =>
    if ((0 : Int32) < 0 ∨ 96 ≤ ((0 : Int32)).toNatClampNeg) then none else
    if (zw < 0 ∨ 400 ≤ (zw).toNatClampNeg) then none else
    if ((1 : Int32) < 0 ∨ 96 ≤ ((1 : Int32)).toNatClampNeg) then none else
    if (zw < 0 ∨ 400 ≤ (zw).toNatClampNeg) then none else
    (fm_pushRest fl B_64 (zw, zc, zz, (upd zl (zw).toNatClampNeg ((bl_64 ((0 : Int32)).toNatClampNeg) - r113)), (upd zr (zw).toNatClampNeg ((bl_64 ((1 : Int32)).toNatClampNeg) - r114))) (0 : Int32) r113).bind fun z119 =>
    match z119 with
    | (Z_119) =>
    (fm_pushRest fl B_64 Z_119 (1 : Int32) r114).bind fun z120 =>
    match z120 with
    | (Z_120) =>
    match Z_120 with
    | (zw_120, zc_120, zz_120, zl_120, zr_120) =>
    (fm_copyPart fl B_64 (3 : Int32) (0 : Int32) (1 : Int32)).bind fun z121 =>
    match z121 with
    | (B_121) =>
    (fm_copy fl B_121 (0 : Int32) (3 : Int32)).bind fun z122 =>
    match z122 with
    | (B_122) =>
    (fm_copyPart fl B_122 (3 : Int32) (1 : Int32) (1 : Int32)).bind fun z123 =>
    match z123 with
    | (B_123) =>
    (fm_copy fl B_123 (1 : Int32) (3 : Int32)).bind fun z124 =>
    match z124 with
    | (B_124) =>
    lp_fm_areSame_12 fl w G B_124 O_64 J_64 V_64 ((zw_120 + (1 : Int32)), zc_120, zz_120, zl_120, zr_120) v1)
    else
    some (false, B_64, O_64, J_64, V_64, Z))
    else
    some (false, B_64, O_64, J_64, V_64, Z))
    else
    some (false, B_64, O_64, J_64, V_64, Z)
def fm_areSame (fl : Nat) (G : cG) (B : cB) (O : cO) (J : cJ) (V : cV) (Z : cZ) : Option (Bool × cB × cO × cJ × cV × cZ) :=
  match Z with
  | (zw, zc, zz, zl, zr) =>
  lp_fm_areSame_12 fl fl G B O J V ((0 : Int32), (0 : Int32), zz, zl, zr) (1 : Int32)
set_option maxHeartbeats 4000000 in
set_option maxRecDepth 100000 in
theorem ok_lp_fm_areSame_12 {fl : Nat} : ∀ {w : Nat} {N : cN} {C : cC} {E : cE} {F : cF} {P : cP} {Q : cQ} {T : cT} {G : cG} {U : cU} {H : cH} {B : cB} {O : cO} {J : cJ} {V : cV} {Y : cY} {Z : cZ} {O9 : cO9} {k n : Nat} {v1 : Int32} {rv : Bool} {B' : cB} {O' : cO} {J' : cJ} {V' : cV} {Z' : cZ} (h : lp_fm_areSame_12 fl w G B O J V Z v1 = some (rv, B', O', J', V', Z')) (D : Nat) (hD : 4 ≤ D), am_Ev D 97 0 (fun _ => 0) (12, [(0, .ref 19), (1, .int v1)], [], (W9 N C E F P Q T G U H B O J V Y Z O9), k, n) (.inl (some (.int (am_bz rv))), W9 N C E F P Q T G U H B' O' J' V' Y Z' O9, k, n) := by
  intro w
  induction w with
  | zero => intros; rename_i h _ _; cases h
  | succ w ih0 =>
    intro N C E F P Q T G U H B O J V Y Z O9 k n v1 rv B' O' J' V' Z' h D hD
    have ih := fun {N} {C} {E} {F} {P} {Q} {T} {G} {U} {H} {B} {O} {J} {V} {Y} {Z} {O9} {k} {n} {v1} {rv} {B'} {O'} {J'} {V'} {Z'} h => @ih0 N C E F P Q T G U H B O J V Y Z O9 k n v1 rv B' O' J' V' Z' h D hD
    unfold lp_fm_areSame_12 at h
    refine am_ev_st 2 (f' := am_br (v1 = 0) 256 13 [(0, .ref 19), (1, .int v1)] [] (W9 N C E F P Q T G U H B O J V Y Z O9) k n) (g := True ∧ True ∧ True) (by with_unfolding_all rfl) ⟨trivial, trivial, trivial⟩ ?_
    by_cases c1 : v1 = 0
    · rw [if_pos c1] at h
      refine am_ev_pos c1 ?_
      refine am_ev_st 1 (f' := (257, [(0, .ref 19), (1, .int v1)], [.int (1 : Int32)], (W9 N C E F P Q T G U H B O J V Y Z O9), k, n)) (g := True ∧ True) (by with_unfolding_all rfl) ⟨trivial, trivial⟩ ?_
      cases h
      exact am_ev_ret 0 0 0 rfl .boolean rfl am_n1 rfl
    · rw [if_neg c1] at h
      refine am_ev_neg c1 ?_
      refine am_ev_st 2 (f' := (18, [(0, .ref 19), (1, .int v1)], [.int (0 : Int32), .ref 19], (W9 N C E F P Q T G U H B O J V Y Z O9), k, n)) (g := True ∧ True ∧ True) (by with_unfolding_all rfl) ⟨trivial, trivial, trivial⟩ ?_
      replace h := Option.bind_eq_some_iff.mp h
      obtain ⟨⟨B_2, O_2, J_2, V_2⟩, hc2, h⟩ := h
      try dsimp only at h
      refine am_ev_call (.invokevirtual 134) 94 2 861 [.ref 19, .int (0 : Int32)] [] rfl rfl rfl rfl (ok_fm_toHead hc2 D (by omega)) rfl ?_
      obtain ⟨vf_2, vu_2, vx_2⟩ := V_2
      try dsimp only at h
      refine am_ev_st 3 (f' := am_br (vx_2 ≠ 0) 33 25 [(0, .ref 19), (1, .int v1)] [] (W9 N C E F P Q T G U H B_2 O_2 J_2 (vf_2, vu_2, vx_2) Y Z O9) k n) (g := True ∧ True ∧ True ∧ True) (by with_unfolding_all rfl) ⟨trivial, trivial, trivial, trivial⟩ ?_
      by_cases c3 : vx_2 ≠ 0
      · rw [if_pos c3] at h
        refine am_ev_pos c3 ?_
        refine am_ev_st 3 (f' := am_br (vx_2 = 0) 42 37 [(0, .ref 19), (1, .int v1)] [] (W9 N C E F P Q T G U H B_2 O_2 J_2 (vf_2, vu_2, vx_2) Y Z O9) k n) (g := True ∧ True ∧ True ∧ True) (by with_unfolding_all rfl) ⟨trivial, trivial, trivial, trivial⟩ ?_
        by_cases c4 : vx_2 = 0
        · rw [if_pos c4] at h
          refine am_ev_pos c4 ?_
          refine am_ev_st 3 (f' := (45, [(0, .ref 19), (1, .int v1)], [.int (0 : Int32), .int (0 : Int32), .ref 19], (W9 N C E F P Q T G U H B_2 O_2 J_2 (vf_2, vu_2, vx_2) Y Z O9), k, n)) (g := True ∧ True ∧ True ∧ True) (by with_unfolding_all rfl) ⟨trivial, trivial, trivial, trivial⟩ ?_
          replace h := Option.bind_eq_some_iff.mp h
          obtain ⟨r5, hc5, h⟩ := h
          try dsimp only at h
          refine am_ev_call (.invokevirtual 69) 81 4 820 [.ref 19, .int (0 : Int32), .int (0 : Int32)] [] rfl rfl rfl rfl (ok_fm_at hc5 D (by omega)) rfl ?_
          refine am_ev_st 2 (f' := (50, [(2, .int r5), (0, .ref 19), (1, .int v1)], [.int r5], (W9 N C E F P Q T G U H B_2 O_2 J_2 (vf_2, vu_2, vx_2) Y Z O9), k, n)) (g := True ∧ True ∧ True) (by with_unfolding_all rfl) ⟨trivial, trivial, trivial⟩ ?_
          replace h := Option.bind_eq_some_iff.mp h
          obtain ⟨r6, hc6, h⟩ := h
          try dsimp only at h
          refine am_ev_call (.invokestatic 80) 78 2 824 [.int r5] [] rfl rfl rfl rfl (ok_fm_kindOf hc6 D (by omega)) rfl ?_
          refine am_ev_st 3 (f' := (56, [(2, .int r5), (0, .ref 19), (1, .int v1)], [.int (0 : Int32), .int (1 : Int32), .ref 19, .int r6], (W9 N C E F P Q T G U H B_2 O_2 J_2 (vf_2, vu_2, vx_2) Y Z O9), k, n)) (g := True ∧ True ∧ True ∧ True) (by with_unfolding_all rfl) ⟨trivial, trivial, trivial, trivial⟩ ?_
          replace h := Option.bind_eq_some_iff.mp h
          obtain ⟨r7, hc7, h⟩ := h
          try dsimp only at h
          refine am_ev_call (.invokevirtual 69) 81 4 820 [.ref 19, .int (1 : Int32), .int (0 : Int32)] [.int r6] rfl rfl rfl rfl (ok_fm_at hc7 D (by omega)) rfl ?_
          replace h := Option.bind_eq_some_iff.mp h
          obtain ⟨r8, hc8, h⟩ := h
          try dsimp only at h
          refine am_ev_call (.invokestatic 80) 78 2 824 [.int r7] [.int r6] rfl rfl rfl rfl (ok_fm_kindOf hc8 D (by omega)) rfl ?_
          refine am_ev_st 1 (f' := am_br (r6 = r8) 67 62 [(2, .int r5), (0, .ref 19), (1, .int v1)] [] (W9 N C E F P Q T G U H B_2 O_2 J_2 (vf_2, vu_2, vx_2) Y Z O9) k n) (g := True ∧ True) (by with_unfolding_all rfl) ⟨trivial, trivial⟩ ?_
          by_cases c9 : r6 = r8
          · rw [if_pos c9] at h
            refine am_ev_pos c9 ?_
            refine am_ev_st 1 (f' := (68, [(2, .int r5), (0, .ref 19), (1, .int v1)], [.int r5], (W9 N C E F P Q T G U H B_2 O_2 J_2 (vf_2, vu_2, vx_2) Y Z O9), k, n)) (g := True ∧ True) (by with_unfolding_all rfl) ⟨trivial, trivial⟩ ?_
            replace h := Option.bind_eq_some_iff.mp h
            obtain ⟨r10, hc10, h⟩ := h
            try dsimp only at h
            refine am_ev_call (.invokestatic 73) 79 2 835 [.int r5] [] rfl rfl rfl rfl (ok_fm_hasParts hc10 D (by omega)) rfl ?_
            refine am_ev_st 1 (f' := am_br ((am_bz r10) ≠ 0) 86 71 [(2, .int r5), (0, .ref 19), (1, .int v1)] [] (W9 N C E F P Q T G U H B_2 O_2 J_2 (vf_2, vu_2, vx_2) Y Z O9) k n) (g := True ∧ True) (by with_unfolding_all rfl) ⟨trivial, trivial⟩ ?_
            by_cases c11 : (am_bz r10) ≠ 0
            · rw [if_pos c11] at h
              refine am_ev_pos c11 ?_
              refine am_ev_st 1 (f' := (87, [(2, .int r5), (0, .ref 19), (1, .int v1)], [.int r5], (W9 N C E F P Q T G U H B_2 O_2 J_2 (vf_2, vu_2, vx_2) Y Z O9), k, n)) (g := True ∧ True) (by with_unfolding_all rfl) ⟨trivial, trivial⟩ ?_
              replace h := Option.bind_eq_some_iff.mp h
              obtain ⟨r12, hc12, h⟩ := h
              try dsimp only at h
              refine am_ev_call (.invokestatic 73) 79 2 835 [.int r5] [] rfl rfl rfl rfl (ok_fm_hasParts hc12 D (by omega)) rfl ?_
              refine am_ev_st 1 (f' := am_br ((am_bz r12) = 0) 195 90 [(2, .int r5), (0, .ref 19), (1, .int v1)] [] (W9 N C E F P Q T G U H B_2 O_2 J_2 (vf_2, vu_2, vx_2) Y Z O9) k n) (g := True ∧ True) (by with_unfolding_all rfl) ⟨trivial, trivial⟩ ?_
              by_cases c13 : (am_bz r12) = 0
              · rw [if_pos c13] at h
                refine am_ev_pos c13 ?_
                obtain ⟨zw, zc, zz, zl, zr⟩ := Z
                try dsimp only at h
                refine am_ev_st 3 (f' := am_br (zw ≤ 0) 206 199 [(2, .int r5), (0, .ref 19), (1, .int v1)] [] (W9 N C E F P Q T G U H B_2 O_2 J_2 (vf_2, vu_2, vx_2) Y (zw, zc, zz, zl, zr) O9) k n) (g := True ∧ True ∧ True ∧ True) (by with_unfolding_all rfl) ⟨trivial, trivial, trivial, trivial⟩ ?_
                by_cases c14 : zw ≤ 0
                · rw [if_pos c14] at h
                  refine am_ev_pos c14 ?_
                  refine am_ev_st 4 (f' := am_br ((0 : Int32) ≠ 0) 215 209 [(1, .int (0 : Int32)), (2, .int r5), (0, .ref 19)] [] (W9 N C E F P Q T G U H B_2 O_2 J_2 (vf_2, vu_2, vx_2) Y (zw, zc, zz, zl, zr) O9) k n) (g := True ∧ True ∧ True ∧ True ∧ True) (by with_unfolding_all rfl) ⟨trivial, trivial, trivial, trivial, trivial⟩ ?_
                  by_cases c15 : (0 : Int32) ≠ 0
                  · rw [if_pos c15] at h
                    refine am_ev_pos c15 ?_
                    by_cases g16 : ((zw - (1 : Int32)) < 0 ∨ 400 ≤ ((zw - (1 : Int32))).toNatClampNeg)
                    · rw [if_pos g16] at h; cases h
                    rw [if_neg g16] at h
                    refine am_ev_st 13 (f' := (236, [(1, .int (0 : Int32)), (2, .int r5), (0, .ref 19)], [.int (zr ((zw - (1 : Int32))).toNatClampNeg), .int (1 : Int32), .ref 19], (W9 N C E F P Q T G U H B_2 O_2 J_2 (vf_2, vu_2, vx_2) Y ((zw - (1 : Int32)), zc, zz, zl, zr) O9), k, n)) (g := True ∧ True ∧ True ∧ True ∧ True ∧ True ∧ True ∧ True ∧ True ∧ True ∧ True ∧ True ∧ vp_in ((zw - (1 : Int32))) 400 ∧ True) (by with_unfolding_all rfl) ⟨trivial, trivial, trivial, trivial, trivial, trivial, trivial, trivial, trivial, trivial, trivial, trivial, g16, trivial⟩ ?_
                    replace h := Option.bind_eq_some_iff.mp h
                    obtain ⟨⟨B_17, Z_17⟩, hc17, h⟩ := h
                    try dsimp only at h
                    refine am_ev_call (.invokevirtual 147) 96 4 909 [.ref 19, .int (1 : Int32), .int (zr ((zw - (1 : Int32))).toNatClampNeg)] [] rfl rfl rfl rfl (ok_fm_pop hc17 D (by omega)) rfl ?_
                    obtain ⟨zw_17, zc_17, zz_17, zl_17, zr_17⟩ := Z_17
                    try dsimp only at h
                    by_cases g18 : (zw_17 < 0 ∨ 400 ≤ (zw_17).toNatClampNeg)
                    · rw [if_pos g18] at h; cases h
                    rw [if_neg g18] at h
                    refine am_ev_st 7 (f' := (250, [(1, .int (0 : Int32)), (2, .int r5), (0, .ref 19)], [.int (zl_17 (zw_17).toNatClampNeg), .int (0 : Int32), .ref 19], (W9 N C E F P Q T G U H B_17 O_2 J_2 (vf_2, vu_2, vx_2) Y (zw_17, zc_17, zz_17, zl_17, zr_17) O9), k, n)) (g := True ∧ True ∧ True ∧ True ∧ True ∧ True ∧ vp_in (zw_17) 400 ∧ True) (by with_unfolding_all rfl) ⟨trivial, trivial, trivial, trivial, trivial, trivial, g18, trivial⟩ ?_
                    replace h := Option.bind_eq_some_iff.mp h
                    obtain ⟨⟨B_19, Z_19⟩, hc19, h⟩ := h
                    try dsimp only at h
                    refine am_ev_call (.invokevirtual 147) 96 4 909 [.ref 19, .int (0 : Int32), .int (zl_17 (zw_17).toNatClampNeg)] [] rfl rfl rfl rfl (ok_fm_pop hc19 D (by omega)) rfl ?_
                    refine am_ev_st 1 (f' := (12, [(1, .int (0 : Int32)), (2, .int r5), (0, .ref 19)], [], (W9 N C E F P Q T G U H B_19 O_2 J_2 (vf_2, vu_2, vx_2) Y Z_19 O9), k, n)) (g := True ∧ True) (by with_unfolding_all rfl) ⟨trivial, trivial⟩ ?_
                    refine am_ev_drop [2, 0] rfl rfl ?_
                    exact ih h
                  · rw [if_neg c15] at h
                    refine am_ev_neg c15 ?_
                    refine am_ev_st 1 (f' := (12, [(1, .int (0 : Int32)), (2, .int r5), (0, .ref 19)], [], (W9 N C E F P Q T G U H B_2 O_2 J_2 (vf_2, vu_2, vx_2) Y (zw, zc, zz, zl, zr) O9), k, n)) (g := True ∧ True) (by with_unfolding_all rfl) ⟨trivial, trivial⟩ ?_
                    refine am_ev_drop [2, 0] rfl rfl ?_
                    exact ih h
                · rw [if_neg c14] at h
                  refine am_ev_neg c14 ?_
                  refine am_ev_st 5 (f' := am_br ((1 : Int32) ≠ 0) 215 209 [(1, .int (1 : Int32)), (2, .int r5), (0, .ref 19)] [] (W9 N C E F P Q T G U H B_2 O_2 J_2 (vf_2, vu_2, vx_2) Y (zw, zc, zz, zl, zr) O9) k n) (g := True ∧ True ∧ True ∧ True ∧ True ∧ True) (by with_unfolding_all rfl) ⟨trivial, trivial, trivial, trivial, trivial, trivial⟩ ?_
                  by_cases c20 : (1 : Int32) ≠ 0
                  · rw [if_pos c20] at h
                    refine am_ev_pos c20 ?_
                    by_cases g21 : ((zw - (1 : Int32)) < 0 ∨ 400 ≤ ((zw - (1 : Int32))).toNatClampNeg)
                    · rw [if_pos g21] at h; cases h
                    rw [if_neg g21] at h
                    refine am_ev_st 13 (f' := (236, [(1, .int (1 : Int32)), (2, .int r5), (0, .ref 19)], [.int (zr ((zw - (1 : Int32))).toNatClampNeg), .int (1 : Int32), .ref 19], (W9 N C E F P Q T G U H B_2 O_2 J_2 (vf_2, vu_2, vx_2) Y ((zw - (1 : Int32)), zc, zz, zl, zr) O9), k, n)) (g := True ∧ True ∧ True ∧ True ∧ True ∧ True ∧ True ∧ True ∧ True ∧ True ∧ True ∧ True ∧ vp_in ((zw - (1 : Int32))) 400 ∧ True) (by with_unfolding_all rfl) ⟨trivial, trivial, trivial, trivial, trivial, trivial, trivial, trivial, trivial, trivial, trivial, trivial, g21, trivial⟩ ?_
                    replace h := Option.bind_eq_some_iff.mp h
                    obtain ⟨⟨B_22, Z_22⟩, hc22, h⟩ := h
                    try dsimp only at h
                    refine am_ev_call (.invokevirtual 147) 96 4 909 [.ref 19, .int (1 : Int32), .int (zr ((zw - (1 : Int32))).toNatClampNeg)] [] rfl rfl rfl rfl (ok_fm_pop hc22 D (by omega)) rfl ?_
                    obtain ⟨zw_22, zc_22, zz_22, zl_22, zr_22⟩ := Z_22
                    try dsimp only at h
                    by_cases g23 : (zw_22 < 0 ∨ 400 ≤ (zw_22).toNatClampNeg)
                    · rw [if_pos g23] at h; cases h
                    rw [if_neg g23] at h
                    refine am_ev_st 7 (f' := (250, [(1, .int (1 : Int32)), (2, .int r5), (0, .ref 19)], [.int (zl_22 (zw_22).toNatClampNeg), .int (0 : Int32), .ref 19], (W9 N C E F P Q T G U H B_22 O_2 J_2 (vf_2, vu_2, vx_2) Y (zw_22, zc_22, zz_22, zl_22, zr_22) O9), k, n)) (g := True ∧ True ∧ True ∧ True ∧ True ∧ True ∧ vp_in (zw_22) 400 ∧ True) (by with_unfolding_all rfl) ⟨trivial, trivial, trivial, trivial, trivial, trivial, g23, trivial⟩ ?_
                    replace h := Option.bind_eq_some_iff.mp h
                    obtain ⟨⟨B_24, Z_24⟩, hc24, h⟩ := h
                    try dsimp only at h
                    refine am_ev_call (.invokevirtual 147) 96 4 909 [.ref 19, .int (0 : Int32), .int (zl_22 (zw_22).toNatClampNeg)] [] rfl rfl rfl rfl (ok_fm_pop hc24 D (by omega)) rfl ?_
                    refine am_ev_st 1 (f' := (12, [(1, .int (1 : Int32)), (2, .int r5), (0, .ref 19)], [], (W9 N C E F P Q T G U H B_24 O_2 J_2 (vf_2, vu_2, vx_2) Y Z_24 O9), k, n)) (g := True ∧ True) (by with_unfolding_all rfl) ⟨trivial, trivial⟩ ?_
                    refine am_ev_drop [2, 0] rfl rfl ?_
                    exact ih h
                  · rw [if_neg c20] at h
                    refine am_ev_neg c20 ?_
                    refine am_ev_st 1 (f' := (12, [(1, .int (1 : Int32)), (2, .int r5), (0, .ref 19)], [], (W9 N C E F P Q T G U H B_2 O_2 J_2 (vf_2, vu_2, vx_2) Y (zw, zc, zz, zl, zr) O9), k, n)) (g := True ∧ True) (by with_unfolding_all rfl) ⟨trivial, trivial⟩ ?_
                    refine am_ev_drop [2, 0] rfl rfl ?_
                    exact ih h
              · rw [if_neg c13] at h
                refine am_ev_neg c13 ?_
                refine am_ev_st 3 (f' := (96, [(2, .int r5), (0, .ref 19), (1, .int v1)], [.int (1 : Int32), .int (0 : Int32), .ref 19], (W9 N C E F P Q T G U H B_2 O_2 J_2 (vf_2, vu_2, vx_2) Y Z O9), k, n)) (g := True ∧ True ∧ True ∧ True) (by with_unfolding_all rfl) ⟨trivial, trivial, trivial, trivial⟩ ?_
                replace h := Option.bind_eq_some_iff.mp h
                obtain ⟨r25, hc25, h⟩ := h
                try dsimp only at h
                refine am_ev_call (.invokevirtual 77) 82 4 853 [.ref 19, .int (0 : Int32), .int (1 : Int32)] [] rfl rfl rfl rfl (ok_fm_endOf hc25 D (by omega)) rfl ?_
                refine am_ev_st 4 (f' := (103, [(3, .int r25), (2, .int r5), (0, .ref 19), (1, .int v1)], [.int (1 : Int32), .int (1 : Int32), .ref 19], (W9 N C E F P Q T G U H B_2 O_2 J_2 (vf_2, vu_2, vx_2) Y Z O9), k, n)) (g := True ∧ True ∧ True ∧ True ∧ True) (by with_unfolding_all rfl) ⟨trivial, trivial, trivial, trivial, trivial⟩ ?_
                replace h := Option.bind_eq_some_iff.mp h
                obtain ⟨r26, hc26, h⟩ := h
                try dsimp only at h
                refine am_ev_call (.invokevirtual 77) 82 4 853 [.ref 19, .int (1 : Int32), .int (1 : Int32)] [] rfl rfl rfl rfl (ok_fm_endOf hc26 D (by omega)) rfl ?_
                obtain ⟨zw, zc, zz, zl, zr⟩ := Z
                try dsimp only at h
                obtain ⟨br_2, bl_2⟩ := B_2
                try dsimp only at h
                by_cases g27 : ((0 : Int32) < 0 ∨ 96 ≤ ((0 : Int32)).toNatClampNeg)
                · rw [if_pos g27] at h; cases h
                rw [if_neg g27] at h
                by_cases g28 : (zw < 0 ∨ 400 ≤ (zw).toNatClampNeg)
                · rw [if_pos g28] at h; cases h
                rw [if_neg g28] at h
                by_cases g29 : ((1 : Int32) < 0 ∨ 96 ≤ ((1 : Int32)).toNatClampNeg)
                · rw [if_pos g29] at h; cases h
                rw [if_neg g29] at h
                by_cases g30 : (zw < 0 ∨ 400 ≤ (zw).toNatClampNeg)
                · rw [if_pos g30] at h; cases h
                rw [if_neg g30] at h
                refine am_ev_st 26 (f' := (146, [(4, .int r26), (3, .int r25), (2, .int r5), (0, .ref 19), (1, .int v1)], [.int r25, .int (0 : Int32), .ref 19], (W9 N C E F P Q T G U H (br_2, bl_2) O_2 J_2 (vf_2, vu_2, vx_2) Y (zw, zc, zz, (upd zl (zw).toNatClampNeg ((bl_2 ((0 : Int32)).toNatClampNeg) - r25)), (upd zr (zw).toNatClampNeg ((bl_2 ((1 : Int32)).toNatClampNeg) - r26))) O9), k, n)) (g := True ∧ True ∧ True ∧ True ∧ True ∧ True ∧ True ∧ True ∧ vp_in ((0 : Int32)) 96 ∧ True ∧ True ∧ vp_in (zw) 400 ∧ True ∧ True ∧ True ∧ True ∧ True ∧ True ∧ True ∧ vp_in ((1 : Int32)) 96 ∧ True ∧ True ∧ vp_in (zw) 400 ∧ True ∧ True ∧ True ∧ True) (by with_unfolding_all rfl) ⟨trivial, trivial, trivial, trivial, trivial, trivial, trivial, trivial, g27, trivial, trivial, g28, trivial, trivial, trivial, trivial, trivial, trivial, trivial, g29, trivial, trivial, g30, trivial, trivial, trivial, trivial⟩ ?_
                replace h := Option.bind_eq_some_iff.mp h
                obtain ⟨Z_31, hc31, h⟩ := h
                try dsimp only at h
                refine am_ev_call (.invokevirtual 137) 95 4 905 [.ref 19, .int (0 : Int32), .int r25] [] rfl rfl rfl rfl (ok_fm_pushRest hc31 D (by omega)) rfl ?_
                refine am_ev_st 3 (f' := (153, [(4, .int r26), (3, .int r25), (2, .int r5), (0, .ref 19), (1, .int v1)], [.int r26, .int (1 : Int32), .ref 19], (W9 N C E F P Q T G U H (br_2, bl_2) O_2 J_2 (vf_2, vu_2, vx_2) Y Z_31 O9), k, n)) (g := True ∧ True ∧ True ∧ True) (by with_unfolding_all rfl) ⟨trivial, trivial, trivial, trivial⟩ ?_
                replace h := Option.bind_eq_some_iff.mp h
                obtain ⟨Z_32, hc32, h⟩ := h
                try dsimp only at h
                refine am_ev_call (.invokevirtual 137) 95 4 905 [.ref 19, .int (1 : Int32), .int r26] [] rfl rfl rfl rfl (ok_fm_pushRest hc32 D (by omega)) rfl ?_
                obtain ⟨zw_32, zc_32, zz_32, zl_32, zr_32⟩ := Z_32
                try dsimp only at h
                refine am_ev_st 10 (f' := (170, [(4, .int r26), (3, .int r25), (2, .int r5), (0, .ref 19), (1, .int v1)], [.int (1 : Int32), .int (0 : Int32), .int (3 : Int32), .ref 19], (W9 N C E F P Q T G U H (br_2, bl_2) O_2 J_2 (vf_2, vu_2, vx_2) Y ((zw_32 + (1 : Int32)), zc_32, zz_32, zl_32, zr_32) O9), k, n)) (g := True ∧ True ∧ True ∧ True ∧ True ∧ True ∧ True ∧ True ∧ True ∧ True ∧ True) (by with_unfolding_all rfl) ⟨trivial, trivial, trivial, trivial, trivial, trivial, trivial, trivial, trivial, trivial, trivial⟩ ?_
                replace h := Option.bind_eq_some_iff.mp h
                obtain ⟨B_33, hc33, h⟩ := h
                try dsimp only at h
                refine am_ev_call (.invokevirtual 141) 83 6 849 [.ref 19, .int (3 : Int32), .int (0 : Int32), .int (1 : Int32)] [] rfl rfl rfl rfl (ok_fm_copyPart hc33 D (by omega)) rfl ?_
                refine am_ev_st 3 (f' := (176, [(4, .int r26), (3, .int r25), (2, .int r5), (0, .ref 19), (1, .int v1)], [.int (3 : Int32), .int (0 : Int32), .ref 19], (W9 N C E F P Q T G U H B_33 O_2 J_2 (vf_2, vu_2, vx_2) Y ((zw_32 + (1 : Int32)), zc_32, zz_32, zl_32, zr_32) O9), k, n)) (g := True ∧ True ∧ True ∧ True) (by with_unfolding_all rfl) ⟨trivial, trivial, trivial, trivial⟩ ?_
                replace h := Option.bind_eq_some_iff.mp h
                obtain ⟨B_34, hc34, h⟩ := h
                try dsimp only at h
                refine am_ev_call (.invokevirtual 144) 84 4 827 [.ref 19, .int (0 : Int32), .int (3 : Int32)] [] rfl rfl rfl rfl (ok_fm_copy hc34 D (by omega)) rfl ?_
                refine am_ev_st 4 (f' := (183, [(4, .int r26), (3, .int r25), (2, .int r5), (0, .ref 19), (1, .int v1)], [.int (1 : Int32), .int (1 : Int32), .int (3 : Int32), .ref 19], (W9 N C E F P Q T G U H B_34 O_2 J_2 (vf_2, vu_2, vx_2) Y ((zw_32 + (1 : Int32)), zc_32, zz_32, zl_32, zr_32) O9), k, n)) (g := True ∧ True ∧ True ∧ True ∧ True) (by with_unfolding_all rfl) ⟨trivial, trivial, trivial, trivial, trivial⟩ ?_
                replace h := Option.bind_eq_some_iff.mp h
                obtain ⟨B_35, hc35, h⟩ := h
                try dsimp only at h
                refine am_ev_call (.invokevirtual 141) 83 6 849 [.ref 19, .int (3 : Int32), .int (1 : Int32), .int (1 : Int32)] [] rfl rfl rfl rfl (ok_fm_copyPart hc35 D (by omega)) rfl ?_
                refine am_ev_st 3 (f' := (189, [(4, .int r26), (3, .int r25), (2, .int r5), (0, .ref 19), (1, .int v1)], [.int (3 : Int32), .int (1 : Int32), .ref 19], (W9 N C E F P Q T G U H B_35 O_2 J_2 (vf_2, vu_2, vx_2) Y ((zw_32 + (1 : Int32)), zc_32, zz_32, zl_32, zr_32) O9), k, n)) (g := True ∧ True ∧ True ∧ True) (by with_unfolding_all rfl) ⟨trivial, trivial, trivial, trivial⟩ ?_
                replace h := Option.bind_eq_some_iff.mp h
                obtain ⟨B_36, hc36, h⟩ := h
                try dsimp only at h
                refine am_ev_call (.invokevirtual 144) 84 4 827 [.ref 19, .int (1 : Int32), .int (3 : Int32)] [] rfl rfl rfl rfl (ok_fm_copy hc36 D (by omega)) rfl ?_
                refine am_ev_st 1 (f' := (12, [(4, .int r26), (3, .int r25), (2, .int r5), (0, .ref 19), (1, .int v1)], [], (W9 N C E F P Q T G U H B_36 O_2 J_2 (vf_2, vu_2, vx_2) Y ((zw_32 + (1 : Int32)), zc_32, zz_32, zl_32, zr_32) O9), k, n)) (g := True ∧ True) (by with_unfolding_all rfl) ⟨trivial, trivial⟩ ?_
                refine am_ev_drop [3, 4] rfl rfl ?_
                exact ih h
            · rw [if_neg c11] at h
              refine am_ev_neg c11 ?_
              refine am_ev_st 4 (f' := (78, [(2, .int r5), (0, .ref 19), (1, .int v1)], [.int (0 : Int32), .int (1 : Int32), .ref 19, .int r5], (W9 N C E F P Q T G U H B_2 O_2 J_2 (vf_2, vu_2, vx_2) Y Z O9), k, n)) (g := True ∧ True ∧ True ∧ True ∧ True) (by with_unfolding_all rfl) ⟨trivial, trivial, trivial, trivial, trivial⟩ ?_
              replace h := Option.bind_eq_some_iff.mp h
              obtain ⟨r37, hc37, h⟩ := h
              try dsimp only at h
              refine am_ev_call (.invokevirtual 69) 81 4 820 [.ref 19, .int (1 : Int32), .int (0 : Int32)] [.int r5] rfl rfl rfl rfl (ok_fm_at hc37 D (by omega)) rfl ?_
              refine am_ev_st 1 (f' := am_br (r5 = r37) 86 81 [(2, .int r5), (0, .ref 19), (1, .int v1)] [] (W9 N C E F P Q T G U H B_2 O_2 J_2 (vf_2, vu_2, vx_2) Y Z O9) k n) (g := True ∧ True) (by with_unfolding_all rfl) ⟨trivial, trivial⟩ ?_
              by_cases c38 : r5 = r37
              · rw [if_pos c38] at h
                refine am_ev_pos c38 ?_
                refine am_ev_st 1 (f' := (87, [(2, .int r5), (0, .ref 19), (1, .int v1)], [.int r5], (W9 N C E F P Q T G U H B_2 O_2 J_2 (vf_2, vu_2, vx_2) Y Z O9), k, n)) (g := True ∧ True) (by with_unfolding_all rfl) ⟨trivial, trivial⟩ ?_
                replace h := Option.bind_eq_some_iff.mp h
                obtain ⟨r39, hc39, h⟩ := h
                try dsimp only at h
                refine am_ev_call (.invokestatic 73) 79 2 835 [.int r5] [] rfl rfl rfl rfl (ok_fm_hasParts hc39 D (by omega)) rfl ?_
                refine am_ev_st 1 (f' := am_br ((am_bz r39) = 0) 195 90 [(2, .int r5), (0, .ref 19), (1, .int v1)] [] (W9 N C E F P Q T G U H B_2 O_2 J_2 (vf_2, vu_2, vx_2) Y Z O9) k n) (g := True ∧ True) (by with_unfolding_all rfl) ⟨trivial, trivial⟩ ?_
                by_cases c40 : (am_bz r39) = 0
                · rw [if_pos c40] at h
                  refine am_ev_pos c40 ?_
                  obtain ⟨zw, zc, zz, zl, zr⟩ := Z
                  try dsimp only at h
                  refine am_ev_st 3 (f' := am_br (zw ≤ 0) 206 199 [(2, .int r5), (0, .ref 19), (1, .int v1)] [] (W9 N C E F P Q T G U H B_2 O_2 J_2 (vf_2, vu_2, vx_2) Y (zw, zc, zz, zl, zr) O9) k n) (g := True ∧ True ∧ True ∧ True) (by with_unfolding_all rfl) ⟨trivial, trivial, trivial, trivial⟩ ?_
                  by_cases c41 : zw ≤ 0
                  · rw [if_pos c41] at h
                    refine am_ev_pos c41 ?_
                    refine am_ev_st 4 (f' := am_br ((0 : Int32) ≠ 0) 215 209 [(1, .int (0 : Int32)), (2, .int r5), (0, .ref 19)] [] (W9 N C E F P Q T G U H B_2 O_2 J_2 (vf_2, vu_2, vx_2) Y (zw, zc, zz, zl, zr) O9) k n) (g := True ∧ True ∧ True ∧ True ∧ True) (by with_unfolding_all rfl) ⟨trivial, trivial, trivial, trivial, trivial⟩ ?_
                    by_cases c42 : (0 : Int32) ≠ 0
                    · rw [if_pos c42] at h
                      refine am_ev_pos c42 ?_
                      by_cases g43 : ((zw - (1 : Int32)) < 0 ∨ 400 ≤ ((zw - (1 : Int32))).toNatClampNeg)
                      · rw [if_pos g43] at h; cases h
                      rw [if_neg g43] at h
                      refine am_ev_st 13 (f' := (236, [(1, .int (0 : Int32)), (2, .int r5), (0, .ref 19)], [.int (zr ((zw - (1 : Int32))).toNatClampNeg), .int (1 : Int32), .ref 19], (W9 N C E F P Q T G U H B_2 O_2 J_2 (vf_2, vu_2, vx_2) Y ((zw - (1 : Int32)), zc, zz, zl, zr) O9), k, n)) (g := True ∧ True ∧ True ∧ True ∧ True ∧ True ∧ True ∧ True ∧ True ∧ True ∧ True ∧ True ∧ vp_in ((zw - (1 : Int32))) 400 ∧ True) (by with_unfolding_all rfl) ⟨trivial, trivial, trivial, trivial, trivial, trivial, trivial, trivial, trivial, trivial, trivial, trivial, g43, trivial⟩ ?_
                      replace h := Option.bind_eq_some_iff.mp h
                      obtain ⟨⟨B_44, Z_44⟩, hc44, h⟩ := h
                      try dsimp only at h
                      refine am_ev_call (.invokevirtual 147) 96 4 909 [.ref 19, .int (1 : Int32), .int (zr ((zw - (1 : Int32))).toNatClampNeg)] [] rfl rfl rfl rfl (ok_fm_pop hc44 D (by omega)) rfl ?_
                      obtain ⟨zw_44, zc_44, zz_44, zl_44, zr_44⟩ := Z_44
                      try dsimp only at h
                      by_cases g45 : (zw_44 < 0 ∨ 400 ≤ (zw_44).toNatClampNeg)
                      · rw [if_pos g45] at h; cases h
                      rw [if_neg g45] at h
                      refine am_ev_st 7 (f' := (250, [(1, .int (0 : Int32)), (2, .int r5), (0, .ref 19)], [.int (zl_44 (zw_44).toNatClampNeg), .int (0 : Int32), .ref 19], (W9 N C E F P Q T G U H B_44 O_2 J_2 (vf_2, vu_2, vx_2) Y (zw_44, zc_44, zz_44, zl_44, zr_44) O9), k, n)) (g := True ∧ True ∧ True ∧ True ∧ True ∧ True ∧ vp_in (zw_44) 400 ∧ True) (by with_unfolding_all rfl) ⟨trivial, trivial, trivial, trivial, trivial, trivial, g45, trivial⟩ ?_
                      replace h := Option.bind_eq_some_iff.mp h
                      obtain ⟨⟨B_46, Z_46⟩, hc46, h⟩ := h
                      try dsimp only at h
                      refine am_ev_call (.invokevirtual 147) 96 4 909 [.ref 19, .int (0 : Int32), .int (zl_44 (zw_44).toNatClampNeg)] [] rfl rfl rfl rfl (ok_fm_pop hc46 D (by omega)) rfl ?_
                      refine am_ev_st 1 (f' := (12, [(1, .int (0 : Int32)), (2, .int r5), (0, .ref 19)], [], (W9 N C E F P Q T G U H B_46 O_2 J_2 (vf_2, vu_2, vx_2) Y Z_46 O9), k, n)) (g := True ∧ True) (by with_unfolding_all rfl) ⟨trivial, trivial⟩ ?_
                      refine am_ev_drop [2, 0] rfl rfl ?_
                      exact ih h
                    · rw [if_neg c42] at h
                      refine am_ev_neg c42 ?_
                      refine am_ev_st 1 (f' := (12, [(1, .int (0 : Int32)), (2, .int r5), (0, .ref 19)], [], (W9 N C E F P Q T G U H B_2 O_2 J_2 (vf_2, vu_2, vx_2) Y (zw, zc, zz, zl, zr) O9), k, n)) (g := True ∧ True) (by with_unfolding_all rfl) ⟨trivial, trivial⟩ ?_
                      refine am_ev_drop [2, 0] rfl rfl ?_
                      exact ih h
                  · rw [if_neg c41] at h
                    refine am_ev_neg c41 ?_
                    refine am_ev_st 5 (f' := am_br ((1 : Int32) ≠ 0) 215 209 [(1, .int (1 : Int32)), (2, .int r5), (0, .ref 19)] [] (W9 N C E F P Q T G U H B_2 O_2 J_2 (vf_2, vu_2, vx_2) Y (zw, zc, zz, zl, zr) O9) k n) (g := True ∧ True ∧ True ∧ True ∧ True ∧ True) (by with_unfolding_all rfl) ⟨trivial, trivial, trivial, trivial, trivial, trivial⟩ ?_
                    by_cases c47 : (1 : Int32) ≠ 0
                    · rw [if_pos c47] at h
                      refine am_ev_pos c47 ?_
                      by_cases g48 : ((zw - (1 : Int32)) < 0 ∨ 400 ≤ ((zw - (1 : Int32))).toNatClampNeg)
                      · rw [if_pos g48] at h; cases h
                      rw [if_neg g48] at h
                      refine am_ev_st 13 (f' := (236, [(1, .int (1 : Int32)), (2, .int r5), (0, .ref 19)], [.int (zr ((zw - (1 : Int32))).toNatClampNeg), .int (1 : Int32), .ref 19], (W9 N C E F P Q T G U H B_2 O_2 J_2 (vf_2, vu_2, vx_2) Y ((zw - (1 : Int32)), zc, zz, zl, zr) O9), k, n)) (g := True ∧ True ∧ True ∧ True ∧ True ∧ True ∧ True ∧ True ∧ True ∧ True ∧ True ∧ True ∧ vp_in ((zw - (1 : Int32))) 400 ∧ True) (by with_unfolding_all rfl) ⟨trivial, trivial, trivial, trivial, trivial, trivial, trivial, trivial, trivial, trivial, trivial, trivial, g48, trivial⟩ ?_
                      replace h := Option.bind_eq_some_iff.mp h
                      obtain ⟨⟨B_49, Z_49⟩, hc49, h⟩ := h
                      try dsimp only at h
                      refine am_ev_call (.invokevirtual 147) 96 4 909 [.ref 19, .int (1 : Int32), .int (zr ((zw - (1 : Int32))).toNatClampNeg)] [] rfl rfl rfl rfl (ok_fm_pop hc49 D (by omega)) rfl ?_
                      obtain ⟨zw_49, zc_49, zz_49, zl_49, zr_49⟩ := Z_49
                      try dsimp only at h
                      by_cases g50 : (zw_49 < 0 ∨ 400 ≤ (zw_49).toNatClampNeg)
                      · rw [if_pos g50] at h; cases h
                      rw [if_neg g50] at h
                      refine am_ev_st 7 (f' := (250, [(1, .int (1 : Int32)), (2, .int r5), (0, .ref 19)], [.int (zl_49 (zw_49).toNatClampNeg), .int (0 : Int32), .ref 19], (W9 N C E F P Q T G U H B_49 O_2 J_2 (vf_2, vu_2, vx_2) Y (zw_49, zc_49, zz_49, zl_49, zr_49) O9), k, n)) (g := True ∧ True ∧ True ∧ True ∧ True ∧ True ∧ vp_in (zw_49) 400 ∧ True) (by with_unfolding_all rfl) ⟨trivial, trivial, trivial, trivial, trivial, trivial, g50, trivial⟩ ?_
                      replace h := Option.bind_eq_some_iff.mp h
                      obtain ⟨⟨B_51, Z_51⟩, hc51, h⟩ := h
                      try dsimp only at h
                      refine am_ev_call (.invokevirtual 147) 96 4 909 [.ref 19, .int (0 : Int32), .int (zl_49 (zw_49).toNatClampNeg)] [] rfl rfl rfl rfl (ok_fm_pop hc51 D (by omega)) rfl ?_
                      refine am_ev_st 1 (f' := (12, [(1, .int (1 : Int32)), (2, .int r5), (0, .ref 19)], [], (W9 N C E F P Q T G U H B_51 O_2 J_2 (vf_2, vu_2, vx_2) Y Z_51 O9), k, n)) (g := True ∧ True) (by with_unfolding_all rfl) ⟨trivial, trivial⟩ ?_
                      refine am_ev_drop [2, 0] rfl rfl ?_
                      exact ih h
                    · rw [if_neg c47] at h
                      refine am_ev_neg c47 ?_
                      refine am_ev_st 1 (f' := (12, [(1, .int (1 : Int32)), (2, .int r5), (0, .ref 19)], [], (W9 N C E F P Q T G U H B_2 O_2 J_2 (vf_2, vu_2, vx_2) Y (zw, zc, zz, zl, zr) O9), k, n)) (g := True ∧ True) (by with_unfolding_all rfl) ⟨trivial, trivial⟩ ?_
                      refine am_ev_drop [2, 0] rfl rfl ?_
                      exact ih h
                · rw [if_neg c40] at h
                  refine am_ev_neg c40 ?_
                  refine am_ev_st 3 (f' := (96, [(2, .int r5), (0, .ref 19), (1, .int v1)], [.int (1 : Int32), .int (0 : Int32), .ref 19], (W9 N C E F P Q T G U H B_2 O_2 J_2 (vf_2, vu_2, vx_2) Y Z O9), k, n)) (g := True ∧ True ∧ True ∧ True) (by with_unfolding_all rfl) ⟨trivial, trivial, trivial, trivial⟩ ?_
                  replace h := Option.bind_eq_some_iff.mp h
                  obtain ⟨r52, hc52, h⟩ := h
                  try dsimp only at h
                  refine am_ev_call (.invokevirtual 77) 82 4 853 [.ref 19, .int (0 : Int32), .int (1 : Int32)] [] rfl rfl rfl rfl (ok_fm_endOf hc52 D (by omega)) rfl ?_
                  refine am_ev_st 4 (f' := (103, [(3, .int r52), (2, .int r5), (0, .ref 19), (1, .int v1)], [.int (1 : Int32), .int (1 : Int32), .ref 19], (W9 N C E F P Q T G U H B_2 O_2 J_2 (vf_2, vu_2, vx_2) Y Z O9), k, n)) (g := True ∧ True ∧ True ∧ True ∧ True) (by with_unfolding_all rfl) ⟨trivial, trivial, trivial, trivial, trivial⟩ ?_
                  replace h := Option.bind_eq_some_iff.mp h
                  obtain ⟨r53, hc53, h⟩ := h
                  try dsimp only at h
                  refine am_ev_call (.invokevirtual 77) 82 4 853 [.ref 19, .int (1 : Int32), .int (1 : Int32)] [] rfl rfl rfl rfl (ok_fm_endOf hc53 D (by omega)) rfl ?_
                  obtain ⟨zw, zc, zz, zl, zr⟩ := Z
                  try dsimp only at h
                  obtain ⟨br_2, bl_2⟩ := B_2
                  try dsimp only at h
                  by_cases g54 : ((0 : Int32) < 0 ∨ 96 ≤ ((0 : Int32)).toNatClampNeg)
                  · rw [if_pos g54] at h; cases h
                  rw [if_neg g54] at h
                  by_cases g55 : (zw < 0 ∨ 400 ≤ (zw).toNatClampNeg)
                  · rw [if_pos g55] at h; cases h
                  rw [if_neg g55] at h
                  by_cases g56 : ((1 : Int32) < 0 ∨ 96 ≤ ((1 : Int32)).toNatClampNeg)
                  · rw [if_pos g56] at h; cases h
                  rw [if_neg g56] at h
                  by_cases g57 : (zw < 0 ∨ 400 ≤ (zw).toNatClampNeg)
                  · rw [if_pos g57] at h; cases h
                  rw [if_neg g57] at h
                  refine am_ev_st 26 (f' := (146, [(4, .int r53), (3, .int r52), (2, .int r5), (0, .ref 19), (1, .int v1)], [.int r52, .int (0 : Int32), .ref 19], (W9 N C E F P Q T G U H (br_2, bl_2) O_2 J_2 (vf_2, vu_2, vx_2) Y (zw, zc, zz, (upd zl (zw).toNatClampNeg ((bl_2 ((0 : Int32)).toNatClampNeg) - r52)), (upd zr (zw).toNatClampNeg ((bl_2 ((1 : Int32)).toNatClampNeg) - r53))) O9), k, n)) (g := True ∧ True ∧ True ∧ True ∧ True ∧ True ∧ True ∧ True ∧ vp_in ((0 : Int32)) 96 ∧ True ∧ True ∧ vp_in (zw) 400 ∧ True ∧ True ∧ True ∧ True ∧ True ∧ True ∧ True ∧ vp_in ((1 : Int32)) 96 ∧ True ∧ True ∧ vp_in (zw) 400 ∧ True ∧ True ∧ True ∧ True) (by with_unfolding_all rfl) ⟨trivial, trivial, trivial, trivial, trivial, trivial, trivial, trivial, g54, trivial, trivial, g55, trivial, trivial, trivial, trivial, trivial, trivial, trivial, g56, trivial, trivial, g57, trivial, trivial, trivial, trivial⟩ ?_
                  replace h := Option.bind_eq_some_iff.mp h
                  obtain ⟨Z_58, hc58, h⟩ := h
                  try dsimp only at h
                  refine am_ev_call (.invokevirtual 137) 95 4 905 [.ref 19, .int (0 : Int32), .int r52] [] rfl rfl rfl rfl (ok_fm_pushRest hc58 D (by omega)) rfl ?_
                  refine am_ev_st 3 (f' := (153, [(4, .int r53), (3, .int r52), (2, .int r5), (0, .ref 19), (1, .int v1)], [.int r53, .int (1 : Int32), .ref 19], (W9 N C E F P Q T G U H (br_2, bl_2) O_2 J_2 (vf_2, vu_2, vx_2) Y Z_58 O9), k, n)) (g := True ∧ True ∧ True ∧ True) (by with_unfolding_all rfl) ⟨trivial, trivial, trivial, trivial⟩ ?_
                  replace h := Option.bind_eq_some_iff.mp h
                  obtain ⟨Z_59, hc59, h⟩ := h
                  try dsimp only at h
                  refine am_ev_call (.invokevirtual 137) 95 4 905 [.ref 19, .int (1 : Int32), .int r53] [] rfl rfl rfl rfl (ok_fm_pushRest hc59 D (by omega)) rfl ?_
                  obtain ⟨zw_59, zc_59, zz_59, zl_59, zr_59⟩ := Z_59
                  try dsimp only at h
                  refine am_ev_st 10 (f' := (170, [(4, .int r53), (3, .int r52), (2, .int r5), (0, .ref 19), (1, .int v1)], [.int (1 : Int32), .int (0 : Int32), .int (3 : Int32), .ref 19], (W9 N C E F P Q T G U H (br_2, bl_2) O_2 J_2 (vf_2, vu_2, vx_2) Y ((zw_59 + (1 : Int32)), zc_59, zz_59, zl_59, zr_59) O9), k, n)) (g := True ∧ True ∧ True ∧ True ∧ True ∧ True ∧ True ∧ True ∧ True ∧ True ∧ True) (by with_unfolding_all rfl) ⟨trivial, trivial, trivial, trivial, trivial, trivial, trivial, trivial, trivial, trivial, trivial⟩ ?_
                  replace h := Option.bind_eq_some_iff.mp h
                  obtain ⟨B_60, hc60, h⟩ := h
                  try dsimp only at h
                  refine am_ev_call (.invokevirtual 141) 83 6 849 [.ref 19, .int (3 : Int32), .int (0 : Int32), .int (1 : Int32)] [] rfl rfl rfl rfl (ok_fm_copyPart hc60 D (by omega)) rfl ?_
                  refine am_ev_st 3 (f' := (176, [(4, .int r53), (3, .int r52), (2, .int r5), (0, .ref 19), (1, .int v1)], [.int (3 : Int32), .int (0 : Int32), .ref 19], (W9 N C E F P Q T G U H B_60 O_2 J_2 (vf_2, vu_2, vx_2) Y ((zw_59 + (1 : Int32)), zc_59, zz_59, zl_59, zr_59) O9), k, n)) (g := True ∧ True ∧ True ∧ True) (by with_unfolding_all rfl) ⟨trivial, trivial, trivial, trivial⟩ ?_
                  replace h := Option.bind_eq_some_iff.mp h
                  obtain ⟨B_61, hc61, h⟩ := h
                  try dsimp only at h
                  refine am_ev_call (.invokevirtual 144) 84 4 827 [.ref 19, .int (0 : Int32), .int (3 : Int32)] [] rfl rfl rfl rfl (ok_fm_copy hc61 D (by omega)) rfl ?_
                  refine am_ev_st 4 (f' := (183, [(4, .int r53), (3, .int r52), (2, .int r5), (0, .ref 19), (1, .int v1)], [.int (1 : Int32), .int (1 : Int32), .int (3 : Int32), .ref 19], (W9 N C E F P Q T G U H B_61 O_2 J_2 (vf_2, vu_2, vx_2) Y ((zw_59 + (1 : Int32)), zc_59, zz_59, zl_59, zr_59) O9), k, n)) (g := True ∧ True ∧ True ∧ True ∧ True) (by with_unfolding_all rfl) ⟨trivial, trivial, trivial, trivial, trivial⟩ ?_
                  replace h := Option.bind_eq_some_iff.mp h
                  obtain ⟨B_62, hc62, h⟩ := h
                  try dsimp only at h
                  refine am_ev_call (.invokevirtual 141) 83 6 849 [.ref 19, .int (3 : Int32), .int (1 : Int32), .int (1 : Int32)] [] rfl rfl rfl rfl (ok_fm_copyPart hc62 D (by omega)) rfl ?_
                  refine am_ev_st 3 (f' := (189, [(4, .int r53), (3, .int r52), (2, .int r5), (0, .ref 19), (1, .int v1)], [.int (3 : Int32), .int (1 : Int32), .ref 19], (W9 N C E F P Q T G U H B_62 O_2 J_2 (vf_2, vu_2, vx_2) Y ((zw_59 + (1 : Int32)), zc_59, zz_59, zl_59, zr_59) O9), k, n)) (g := True ∧ True ∧ True ∧ True) (by with_unfolding_all rfl) ⟨trivial, trivial, trivial, trivial⟩ ?_
                  replace h := Option.bind_eq_some_iff.mp h
                  obtain ⟨B_63, hc63, h⟩ := h
                  try dsimp only at h
                  refine am_ev_call (.invokevirtual 144) 84 4 827 [.ref 19, .int (1 : Int32), .int (3 : Int32)] [] rfl rfl rfl rfl (ok_fm_copy hc63 D (by omega)) rfl ?_
                  refine am_ev_st 1 (f' := (12, [(4, .int r53), (3, .int r52), (2, .int r5), (0, .ref 19), (1, .int v1)], [], (W9 N C E F P Q T G U H B_63 O_2 J_2 (vf_2, vu_2, vx_2) Y ((zw_59 + (1 : Int32)), zc_59, zz_59, zl_59, zr_59) O9), k, n)) (g := True ∧ True) (by with_unfolding_all rfl) ⟨trivial, trivial⟩ ?_
                  refine am_ev_drop [3, 4] rfl rfl ?_
                  exact ih h
              · rw [if_neg c38] at h
                refine am_ev_neg c38 ?_
                refine am_ev_st 1 (f' := (85, [(2, .int r5), (0, .ref 19), (1, .int v1)], [.int (0 : Int32)], (W9 N C E F P Q T G U H B_2 O_2 J_2 (vf_2, vu_2, vx_2) Y Z O9), k, n)) (g := True ∧ True) (by with_unfolding_all rfl) ⟨trivial, trivial⟩ ?_
                cases h
                exact am_ev_ret 0 0 0 rfl .boolean rfl am_n0 rfl
          · rw [if_neg c9] at h
            refine am_ev_neg c9 ?_
            refine am_ev_st 1 (f' := (66, [(2, .int r5), (0, .ref 19), (1, .int v1)], [.int (0 : Int32)], (W9 N C E F P Q T G U H B_2 O_2 J_2 (vf_2, vu_2, vx_2) Y Z O9), k, n)) (g := True ∧ True) (by with_unfolding_all rfl) ⟨trivial, trivial⟩ ?_
            cases h
            exact am_ev_ret 0 0 0 rfl .boolean rfl am_n0 rfl
        · rw [if_neg c4] at h
          refine am_ev_neg c4 ?_
          refine am_ev_st 1 (f' := (41, [(0, .ref 19), (1, .int v1)], [.int (0 : Int32)], (W9 N C E F P Q T G U H B_2 O_2 J_2 (vf_2, vu_2, vx_2) Y Z O9), k, n)) (g := True ∧ True) (by with_unfolding_all rfl) ⟨trivial, trivial⟩ ?_
          cases h
          exact am_ev_ret 0 0 0 rfl .boolean rfl am_n0 rfl
      · rw [if_neg c3] at h
        refine am_ev_neg c3 ?_
        refine am_ev_st 2 (f' := (30, [(0, .ref 19), (1, .int v1)], [.int (1 : Int32), .ref 19], (W9 N C E F P Q T G U H B_2 O_2 J_2 (vf_2, vu_2, vx_2) Y Z O9), k, n)) (g := True ∧ True ∧ True) (by with_unfolding_all rfl) ⟨trivial, trivial, trivial⟩ ?_
        replace h := Option.bind_eq_some_iff.mp h
        obtain ⟨⟨B_64, O_64, J_64, V_64⟩, hc64, h⟩ := h
        try dsimp only at h
        refine am_ev_call (.invokevirtual 134) 94 2 861 [.ref 19, .int (1 : Int32)] [] rfl rfl rfl rfl (ok_fm_toHead hc64 D (by omega)) rfl ?_
        obtain ⟨vf_64, vu_64, vx_64⟩ := V_64
        try dsimp only at h
        refine am_ev_st 3 (f' := am_br (vx_64 = 0) 42 37 [(0, .ref 19), (1, .int v1)] [] (W9 N C E F P Q T G U H B_64 O_64 J_64 (vf_64, vu_64, vx_64) Y Z O9) k n) (g := True ∧ True ∧ True ∧ True) (by with_unfolding_all rfl) ⟨trivial, trivial, trivial, trivial⟩ ?_
        by_cases c65 : vx_64 = 0
        · rw [if_pos c65] at h
          refine am_ev_pos c65 ?_
          refine am_ev_st 3 (f' := (45, [(0, .ref 19), (1, .int v1)], [.int (0 : Int32), .int (0 : Int32), .ref 19], (W9 N C E F P Q T G U H B_64 O_64 J_64 (vf_64, vu_64, vx_64) Y Z O9), k, n)) (g := True ∧ True ∧ True ∧ True) (by with_unfolding_all rfl) ⟨trivial, trivial, trivial, trivial⟩ ?_
          replace h := Option.bind_eq_some_iff.mp h
          obtain ⟨r66, hc66, h⟩ := h
          try dsimp only at h
          refine am_ev_call (.invokevirtual 69) 81 4 820 [.ref 19, .int (0 : Int32), .int (0 : Int32)] [] rfl rfl rfl rfl (ok_fm_at hc66 D (by omega)) rfl ?_
          refine am_ev_st 2 (f' := (50, [(2, .int r66), (0, .ref 19), (1, .int v1)], [.int r66], (W9 N C E F P Q T G U H B_64 O_64 J_64 (vf_64, vu_64, vx_64) Y Z O9), k, n)) (g := True ∧ True ∧ True) (by with_unfolding_all rfl) ⟨trivial, trivial, trivial⟩ ?_
          replace h := Option.bind_eq_some_iff.mp h
          obtain ⟨r67, hc67, h⟩ := h
          try dsimp only at h
          refine am_ev_call (.invokestatic 80) 78 2 824 [.int r66] [] rfl rfl rfl rfl (ok_fm_kindOf hc67 D (by omega)) rfl ?_
          refine am_ev_st 3 (f' := (56, [(2, .int r66), (0, .ref 19), (1, .int v1)], [.int (0 : Int32), .int (1 : Int32), .ref 19, .int r67], (W9 N C E F P Q T G U H B_64 O_64 J_64 (vf_64, vu_64, vx_64) Y Z O9), k, n)) (g := True ∧ True ∧ True ∧ True) (by with_unfolding_all rfl) ⟨trivial, trivial, trivial, trivial⟩ ?_
          replace h := Option.bind_eq_some_iff.mp h
          obtain ⟨r68, hc68, h⟩ := h
          try dsimp only at h
          refine am_ev_call (.invokevirtual 69) 81 4 820 [.ref 19, .int (1 : Int32), .int (0 : Int32)] [.int r67] rfl rfl rfl rfl (ok_fm_at hc68 D (by omega)) rfl ?_
          replace h := Option.bind_eq_some_iff.mp h
          obtain ⟨r69, hc69, h⟩ := h
          try dsimp only at h
          refine am_ev_call (.invokestatic 80) 78 2 824 [.int r68] [.int r67] rfl rfl rfl rfl (ok_fm_kindOf hc69 D (by omega)) rfl ?_
          refine am_ev_st 1 (f' := am_br (r67 = r69) 67 62 [(2, .int r66), (0, .ref 19), (1, .int v1)] [] (W9 N C E F P Q T G U H B_64 O_64 J_64 (vf_64, vu_64, vx_64) Y Z O9) k n) (g := True ∧ True) (by with_unfolding_all rfl) ⟨trivial, trivial⟩ ?_
          by_cases c70 : r67 = r69
          · rw [if_pos c70] at h
            refine am_ev_pos c70 ?_
            refine am_ev_st 1 (f' := (68, [(2, .int r66), (0, .ref 19), (1, .int v1)], [.int r66], (W9 N C E F P Q T G U H B_64 O_64 J_64 (vf_64, vu_64, vx_64) Y Z O9), k, n)) (g := True ∧ True) (by with_unfolding_all rfl) ⟨trivial, trivial⟩ ?_
            replace h := Option.bind_eq_some_iff.mp h
            obtain ⟨r71, hc71, h⟩ := h
            try dsimp only at h
            refine am_ev_call (.invokestatic 73) 79 2 835 [.int r66] [] rfl rfl rfl rfl (ok_fm_hasParts hc71 D (by omega)) rfl ?_
            refine am_ev_st 1 (f' := am_br ((am_bz r71) ≠ 0) 86 71 [(2, .int r66), (0, .ref 19), (1, .int v1)] [] (W9 N C E F P Q T G U H B_64 O_64 J_64 (vf_64, vu_64, vx_64) Y Z O9) k n) (g := True ∧ True) (by with_unfolding_all rfl) ⟨trivial, trivial⟩ ?_
            by_cases c72 : (am_bz r71) ≠ 0
            · rw [if_pos c72] at h
              refine am_ev_pos c72 ?_
              refine am_ev_st 1 (f' := (87, [(2, .int r66), (0, .ref 19), (1, .int v1)], [.int r66], (W9 N C E F P Q T G U H B_64 O_64 J_64 (vf_64, vu_64, vx_64) Y Z O9), k, n)) (g := True ∧ True) (by with_unfolding_all rfl) ⟨trivial, trivial⟩ ?_
              replace h := Option.bind_eq_some_iff.mp h
              obtain ⟨r73, hc73, h⟩ := h
              try dsimp only at h
              refine am_ev_call (.invokestatic 73) 79 2 835 [.int r66] [] rfl rfl rfl rfl (ok_fm_hasParts hc73 D (by omega)) rfl ?_
              refine am_ev_st 1 (f' := am_br ((am_bz r73) = 0) 195 90 [(2, .int r66), (0, .ref 19), (1, .int v1)] [] (W9 N C E F P Q T G U H B_64 O_64 J_64 (vf_64, vu_64, vx_64) Y Z O9) k n) (g := True ∧ True) (by with_unfolding_all rfl) ⟨trivial, trivial⟩ ?_
              by_cases c74 : (am_bz r73) = 0
              · rw [if_pos c74] at h
                refine am_ev_pos c74 ?_
                obtain ⟨zw, zc, zz, zl, zr⟩ := Z
                try dsimp only at h
                refine am_ev_st 3 (f' := am_br (zw ≤ 0) 206 199 [(2, .int r66), (0, .ref 19), (1, .int v1)] [] (W9 N C E F P Q T G U H B_64 O_64 J_64 (vf_64, vu_64, vx_64) Y (zw, zc, zz, zl, zr) O9) k n) (g := True ∧ True ∧ True ∧ True) (by with_unfolding_all rfl) ⟨trivial, trivial, trivial, trivial⟩ ?_
                by_cases c75 : zw ≤ 0
                · rw [if_pos c75] at h
                  refine am_ev_pos c75 ?_
                  refine am_ev_st 4 (f' := am_br ((0 : Int32) ≠ 0) 215 209 [(1, .int (0 : Int32)), (2, .int r66), (0, .ref 19)] [] (W9 N C E F P Q T G U H B_64 O_64 J_64 (vf_64, vu_64, vx_64) Y (zw, zc, zz, zl, zr) O9) k n) (g := True ∧ True ∧ True ∧ True ∧ True) (by with_unfolding_all rfl) ⟨trivial, trivial, trivial, trivial, trivial⟩ ?_
                  by_cases c76 : (0 : Int32) ≠ 0
                  · rw [if_pos c76] at h
                    refine am_ev_pos c76 ?_
                    by_cases g77 : ((zw - (1 : Int32)) < 0 ∨ 400 ≤ ((zw - (1 : Int32))).toNatClampNeg)
                    · rw [if_pos g77] at h; cases h
                    rw [if_neg g77] at h
                    refine am_ev_st 13 (f' := (236, [(1, .int (0 : Int32)), (2, .int r66), (0, .ref 19)], [.int (zr ((zw - (1 : Int32))).toNatClampNeg), .int (1 : Int32), .ref 19], (W9 N C E F P Q T G U H B_64 O_64 J_64 (vf_64, vu_64, vx_64) Y ((zw - (1 : Int32)), zc, zz, zl, zr) O9), k, n)) (g := True ∧ True ∧ True ∧ True ∧ True ∧ True ∧ True ∧ True ∧ True ∧ True ∧ True ∧ True ∧ vp_in ((zw - (1 : Int32))) 400 ∧ True) (by with_unfolding_all rfl) ⟨trivial, trivial, trivial, trivial, trivial, trivial, trivial, trivial, trivial, trivial, trivial, trivial, g77, trivial⟩ ?_
                    replace h := Option.bind_eq_some_iff.mp h
                    obtain ⟨⟨B_78, Z_78⟩, hc78, h⟩ := h
                    try dsimp only at h
                    refine am_ev_call (.invokevirtual 147) 96 4 909 [.ref 19, .int (1 : Int32), .int (zr ((zw - (1 : Int32))).toNatClampNeg)] [] rfl rfl rfl rfl (ok_fm_pop hc78 D (by omega)) rfl ?_
                    obtain ⟨zw_78, zc_78, zz_78, zl_78, zr_78⟩ := Z_78
                    try dsimp only at h
                    by_cases g79 : (zw_78 < 0 ∨ 400 ≤ (zw_78).toNatClampNeg)
                    · rw [if_pos g79] at h; cases h
                    rw [if_neg g79] at h
                    refine am_ev_st 7 (f' := (250, [(1, .int (0 : Int32)), (2, .int r66), (0, .ref 19)], [.int (zl_78 (zw_78).toNatClampNeg), .int (0 : Int32), .ref 19], (W9 N C E F P Q T G U H B_78 O_64 J_64 (vf_64, vu_64, vx_64) Y (zw_78, zc_78, zz_78, zl_78, zr_78) O9), k, n)) (g := True ∧ True ∧ True ∧ True ∧ True ∧ True ∧ vp_in (zw_78) 400 ∧ True) (by with_unfolding_all rfl) ⟨trivial, trivial, trivial, trivial, trivial, trivial, g79, trivial⟩ ?_
                    replace h := Option.bind_eq_some_iff.mp h
                    obtain ⟨⟨B_80, Z_80⟩, hc80, h⟩ := h
                    try dsimp only at h
                    refine am_ev_call (.invokevirtual 147) 96 4 909 [.ref 19, .int (0 : Int32), .int (zl_78 (zw_78).toNatClampNeg)] [] rfl rfl rfl rfl (ok_fm_pop hc80 D (by omega)) rfl ?_
                    refine am_ev_st 1 (f' := (12, [(1, .int (0 : Int32)), (2, .int r66), (0, .ref 19)], [], (W9 N C E F P Q T G U H B_80 O_64 J_64 (vf_64, vu_64, vx_64) Y Z_80 O9), k, n)) (g := True ∧ True) (by with_unfolding_all rfl) ⟨trivial, trivial⟩ ?_
                    refine am_ev_drop [2, 0] rfl rfl ?_
                    exact ih h
                  · rw [if_neg c76] at h
                    refine am_ev_neg c76 ?_
                    refine am_ev_st 1 (f' := (12, [(1, .int (0 : Int32)), (2, .int r66), (0, .ref 19)], [], (W9 N C E F P Q T G U H B_64 O_64 J_64 (vf_64, vu_64, vx_64) Y (zw, zc, zz, zl, zr) O9), k, n)) (g := True ∧ True) (by with_unfolding_all rfl) ⟨trivial, trivial⟩ ?_
                    refine am_ev_drop [2, 0] rfl rfl ?_
                    exact ih h
                · rw [if_neg c75] at h
                  refine am_ev_neg c75 ?_
                  refine am_ev_st 5 (f' := am_br ((1 : Int32) ≠ 0) 215 209 [(1, .int (1 : Int32)), (2, .int r66), (0, .ref 19)] [] (W9 N C E F P Q T G U H B_64 O_64 J_64 (vf_64, vu_64, vx_64) Y (zw, zc, zz, zl, zr) O9) k n) (g := True ∧ True ∧ True ∧ True ∧ True ∧ True) (by with_unfolding_all rfl) ⟨trivial, trivial, trivial, trivial, trivial, trivial⟩ ?_
                  by_cases c81 : (1 : Int32) ≠ 0
                  · rw [if_pos c81] at h
                    refine am_ev_pos c81 ?_
                    by_cases g82 : ((zw - (1 : Int32)) < 0 ∨ 400 ≤ ((zw - (1 : Int32))).toNatClampNeg)
                    · rw [if_pos g82] at h; cases h
                    rw [if_neg g82] at h
                    refine am_ev_st 13 (f' := (236, [(1, .int (1 : Int32)), (2, .int r66), (0, .ref 19)], [.int (zr ((zw - (1 : Int32))).toNatClampNeg), .int (1 : Int32), .ref 19], (W9 N C E F P Q T G U H B_64 O_64 J_64 (vf_64, vu_64, vx_64) Y ((zw - (1 : Int32)), zc, zz, zl, zr) O9), k, n)) (g := True ∧ True ∧ True ∧ True ∧ True ∧ True ∧ True ∧ True ∧ True ∧ True ∧ True ∧ True ∧ vp_in ((zw - (1 : Int32))) 400 ∧ True) (by with_unfolding_all rfl) ⟨trivial, trivial, trivial, trivial, trivial, trivial, trivial, trivial, trivial, trivial, trivial, trivial, g82, trivial⟩ ?_
                    replace h := Option.bind_eq_some_iff.mp h
                    obtain ⟨⟨B_83, Z_83⟩, hc83, h⟩ := h
                    try dsimp only at h
                    refine am_ev_call (.invokevirtual 147) 96 4 909 [.ref 19, .int (1 : Int32), .int (zr ((zw - (1 : Int32))).toNatClampNeg)] [] rfl rfl rfl rfl (ok_fm_pop hc83 D (by omega)) rfl ?_
                    obtain ⟨zw_83, zc_83, zz_83, zl_83, zr_83⟩ := Z_83
                    try dsimp only at h
                    by_cases g84 : (zw_83 < 0 ∨ 400 ≤ (zw_83).toNatClampNeg)
                    · rw [if_pos g84] at h; cases h
                    rw [if_neg g84] at h
                    refine am_ev_st 7 (f' := (250, [(1, .int (1 : Int32)), (2, .int r66), (0, .ref 19)], [.int (zl_83 (zw_83).toNatClampNeg), .int (0 : Int32), .ref 19], (W9 N C E F P Q T G U H B_83 O_64 J_64 (vf_64, vu_64, vx_64) Y (zw_83, zc_83, zz_83, zl_83, zr_83) O9), k, n)) (g := True ∧ True ∧ True ∧ True ∧ True ∧ True ∧ vp_in (zw_83) 400 ∧ True) (by with_unfolding_all rfl) ⟨trivial, trivial, trivial, trivial, trivial, trivial, g84, trivial⟩ ?_
                    replace h := Option.bind_eq_some_iff.mp h
                    obtain ⟨⟨B_85, Z_85⟩, hc85, h⟩ := h
                    try dsimp only at h
                    refine am_ev_call (.invokevirtual 147) 96 4 909 [.ref 19, .int (0 : Int32), .int (zl_83 (zw_83).toNatClampNeg)] [] rfl rfl rfl rfl (ok_fm_pop hc85 D (by omega)) rfl ?_
                    refine am_ev_st 1 (f' := (12, [(1, .int (1 : Int32)), (2, .int r66), (0, .ref 19)], [], (W9 N C E F P Q T G U H B_85 O_64 J_64 (vf_64, vu_64, vx_64) Y Z_85 O9), k, n)) (g := True ∧ True) (by with_unfolding_all rfl) ⟨trivial, trivial⟩ ?_
                    refine am_ev_drop [2, 0] rfl rfl ?_
                    exact ih h
                  · rw [if_neg c81] at h
                    refine am_ev_neg c81 ?_
                    refine am_ev_st 1 (f' := (12, [(1, .int (1 : Int32)), (2, .int r66), (0, .ref 19)], [], (W9 N C E F P Q T G U H B_64 O_64 J_64 (vf_64, vu_64, vx_64) Y (zw, zc, zz, zl, zr) O9), k, n)) (g := True ∧ True) (by with_unfolding_all rfl) ⟨trivial, trivial⟩ ?_
                    refine am_ev_drop [2, 0] rfl rfl ?_
                    exact ih h
              · rw [if_neg c74] at h
                refine am_ev_neg c74 ?_
                refine am_ev_st 3 (f' := (96, [(2, .int r66), (0, .ref 19), (1, .int v1)], [.int (1 : Int32), .int (0 : Int32), .ref 19], (W9 N C E F P Q T G U H B_64 O_64 J_64 (vf_64, vu_64, vx_64) Y Z O9), k, n)) (g := True ∧ True ∧ True ∧ True) (by with_unfolding_all rfl) ⟨trivial, trivial, trivial, trivial⟩ ?_
                replace h := Option.bind_eq_some_iff.mp h
                obtain ⟨r86, hc86, h⟩ := h
                try dsimp only at h
                refine am_ev_call (.invokevirtual 77) 82 4 853 [.ref 19, .int (0 : Int32), .int (1 : Int32)] [] rfl rfl rfl rfl (ok_fm_endOf hc86 D (by omega)) rfl ?_
                refine am_ev_st 4 (f' := (103, [(3, .int r86), (2, .int r66), (0, .ref 19), (1, .int v1)], [.int (1 : Int32), .int (1 : Int32), .ref 19], (W9 N C E F P Q T G U H B_64 O_64 J_64 (vf_64, vu_64, vx_64) Y Z O9), k, n)) (g := True ∧ True ∧ True ∧ True ∧ True) (by with_unfolding_all rfl) ⟨trivial, trivial, trivial, trivial, trivial⟩ ?_
                replace h := Option.bind_eq_some_iff.mp h
                obtain ⟨r87, hc87, h⟩ := h
                try dsimp only at h
                refine am_ev_call (.invokevirtual 77) 82 4 853 [.ref 19, .int (1 : Int32), .int (1 : Int32)] [] rfl rfl rfl rfl (ok_fm_endOf hc87 D (by omega)) rfl ?_
                obtain ⟨zw, zc, zz, zl, zr⟩ := Z
                try dsimp only at h
                obtain ⟨br_64, bl_64⟩ := B_64
                try dsimp only at h
                by_cases g88 : ((0 : Int32) < 0 ∨ 96 ≤ ((0 : Int32)).toNatClampNeg)
                · rw [if_pos g88] at h; cases h
                rw [if_neg g88] at h
                by_cases g89 : (zw < 0 ∨ 400 ≤ (zw).toNatClampNeg)
                · rw [if_pos g89] at h; cases h
                rw [if_neg g89] at h
                by_cases g90 : ((1 : Int32) < 0 ∨ 96 ≤ ((1 : Int32)).toNatClampNeg)
                · rw [if_pos g90] at h; cases h
                rw [if_neg g90] at h
                by_cases g91 : (zw < 0 ∨ 400 ≤ (zw).toNatClampNeg)
                · rw [if_pos g91] at h; cases h
                rw [if_neg g91] at h
                refine am_ev_st 26 (f' := (146, [(4, .int r87), (3, .int r86), (2, .int r66), (0, .ref 19), (1, .int v1)], [.int r86, .int (0 : Int32), .ref 19], (W9 N C E F P Q T G U H (br_64, bl_64) O_64 J_64 (vf_64, vu_64, vx_64) Y (zw, zc, zz, (upd zl (zw).toNatClampNeg ((bl_64 ((0 : Int32)).toNatClampNeg) - r86)), (upd zr (zw).toNatClampNeg ((bl_64 ((1 : Int32)).toNatClampNeg) - r87))) O9), k, n)) (g := True ∧ True ∧ True ∧ True ∧ True ∧ True ∧ True ∧ True ∧ vp_in ((0 : Int32)) 96 ∧ True ∧ True ∧ vp_in (zw) 400 ∧ True ∧ True ∧ True ∧ True ∧ True ∧ True ∧ True ∧ vp_in ((1 : Int32)) 96 ∧ True ∧ True ∧ vp_in (zw) 400 ∧ True ∧ True ∧ True ∧ True) (by with_unfolding_all rfl) ⟨trivial, trivial, trivial, trivial, trivial, trivial, trivial, trivial, g88, trivial, trivial, g89, trivial, trivial, trivial, trivial, trivial, trivial, trivial, g90, trivial, trivial, g91, trivial, trivial, trivial, trivial⟩ ?_
                replace h := Option.bind_eq_some_iff.mp h
                obtain ⟨Z_92, hc92, h⟩ := h
                try dsimp only at h
                refine am_ev_call (.invokevirtual 137) 95 4 905 [.ref 19, .int (0 : Int32), .int r86] [] rfl rfl rfl rfl (ok_fm_pushRest hc92 D (by omega)) rfl ?_
                refine am_ev_st 3 (f' := (153, [(4, .int r87), (3, .int r86), (2, .int r66), (0, .ref 19), (1, .int v1)], [.int r87, .int (1 : Int32), .ref 19], (W9 N C E F P Q T G U H (br_64, bl_64) O_64 J_64 (vf_64, vu_64, vx_64) Y Z_92 O9), k, n)) (g := True ∧ True ∧ True ∧ True) (by with_unfolding_all rfl) ⟨trivial, trivial, trivial, trivial⟩ ?_
                replace h := Option.bind_eq_some_iff.mp h
                obtain ⟨Z_93, hc93, h⟩ := h
                try dsimp only at h
                refine am_ev_call (.invokevirtual 137) 95 4 905 [.ref 19, .int (1 : Int32), .int r87] [] rfl rfl rfl rfl (ok_fm_pushRest hc93 D (by omega)) rfl ?_
                obtain ⟨zw_93, zc_93, zz_93, zl_93, zr_93⟩ := Z_93
                try dsimp only at h
                refine am_ev_st 10 (f' := (170, [(4, .int r87), (3, .int r86), (2, .int r66), (0, .ref 19), (1, .int v1)], [.int (1 : Int32), .int (0 : Int32), .int (3 : Int32), .ref 19], (W9 N C E F P Q T G U H (br_64, bl_64) O_64 J_64 (vf_64, vu_64, vx_64) Y ((zw_93 + (1 : Int32)), zc_93, zz_93, zl_93, zr_93) O9), k, n)) (g := True ∧ True ∧ True ∧ True ∧ True ∧ True ∧ True ∧ True ∧ True ∧ True ∧ True) (by with_unfolding_all rfl) ⟨trivial, trivial, trivial, trivial, trivial, trivial, trivial, trivial, trivial, trivial, trivial⟩ ?_
                replace h := Option.bind_eq_some_iff.mp h
                obtain ⟨B_94, hc94, h⟩ := h
                try dsimp only at h
                refine am_ev_call (.invokevirtual 141) 83 6 849 [.ref 19, .int (3 : Int32), .int (0 : Int32), .int (1 : Int32)] [] rfl rfl rfl rfl (ok_fm_copyPart hc94 D (by omega)) rfl ?_
                refine am_ev_st 3 (f' := (176, [(4, .int r87), (3, .int r86), (2, .int r66), (0, .ref 19), (1, .int v1)], [.int (3 : Int32), .int (0 : Int32), .ref 19], (W9 N C E F P Q T G U H B_94 O_64 J_64 (vf_64, vu_64, vx_64) Y ((zw_93 + (1 : Int32)), zc_93, zz_93, zl_93, zr_93) O9), k, n)) (g := True ∧ True ∧ True ∧ True) (by with_unfolding_all rfl) ⟨trivial, trivial, trivial, trivial⟩ ?_
                replace h := Option.bind_eq_some_iff.mp h
                obtain ⟨B_95, hc95, h⟩ := h
                try dsimp only at h
                refine am_ev_call (.invokevirtual 144) 84 4 827 [.ref 19, .int (0 : Int32), .int (3 : Int32)] [] rfl rfl rfl rfl (ok_fm_copy hc95 D (by omega)) rfl ?_
                refine am_ev_st 4 (f' := (183, [(4, .int r87), (3, .int r86), (2, .int r66), (0, .ref 19), (1, .int v1)], [.int (1 : Int32), .int (1 : Int32), .int (3 : Int32), .ref 19], (W9 N C E F P Q T G U H B_95 O_64 J_64 (vf_64, vu_64, vx_64) Y ((zw_93 + (1 : Int32)), zc_93, zz_93, zl_93, zr_93) O9), k, n)) (g := True ∧ True ∧ True ∧ True ∧ True) (by with_unfolding_all rfl) ⟨trivial, trivial, trivial, trivial, trivial⟩ ?_
                replace h := Option.bind_eq_some_iff.mp h
                obtain ⟨B_96, hc96, h⟩ := h
                try dsimp only at h
                refine am_ev_call (.invokevirtual 141) 83 6 849 [.ref 19, .int (3 : Int32), .int (1 : Int32), .int (1 : Int32)] [] rfl rfl rfl rfl (ok_fm_copyPart hc96 D (by omega)) rfl ?_
                refine am_ev_st 3 (f' := (189, [(4, .int r87), (3, .int r86), (2, .int r66), (0, .ref 19), (1, .int v1)], [.int (3 : Int32), .int (1 : Int32), .ref 19], (W9 N C E F P Q T G U H B_96 O_64 J_64 (vf_64, vu_64, vx_64) Y ((zw_93 + (1 : Int32)), zc_93, zz_93, zl_93, zr_93) O9), k, n)) (g := True ∧ True ∧ True ∧ True) (by with_unfolding_all rfl) ⟨trivial, trivial, trivial, trivial⟩ ?_
                replace h := Option.bind_eq_some_iff.mp h
                obtain ⟨B_97, hc97, h⟩ := h
                try dsimp only at h
                refine am_ev_call (.invokevirtual 144) 84 4 827 [.ref 19, .int (1 : Int32), .int (3 : Int32)] [] rfl rfl rfl rfl (ok_fm_copy hc97 D (by omega)) rfl ?_
                refine am_ev_st 1 (f' := (12, [(4, .int r87), (3, .int r86), (2, .int r66), (0, .ref 19), (1, .int v1)], [], (W9 N C E F P Q T G U H B_97 O_64 J_64 (vf_64, vu_64, vx_64) Y ((zw_93 + (1 : Int32)), zc_93, zz_93, zl_93, zr_93) O9), k, n)) (g := True ∧ True) (by with_unfolding_all rfl) ⟨trivial, trivial⟩ ?_
                refine am_ev_drop [3, 4] rfl rfl ?_
                exact ih h
            · rw [if_neg c72] at h
              refine am_ev_neg c72 ?_
              refine am_ev_st 4 (f' := (78, [(2, .int r66), (0, .ref 19), (1, .int v1)], [.int (0 : Int32), .int (1 : Int32), .ref 19, .int r66], (W9 N C E F P Q T G U H B_64 O_64 J_64 (vf_64, vu_64, vx_64) Y Z O9), k, n)) (g := True ∧ True ∧ True ∧ True ∧ True) (by with_unfolding_all rfl) ⟨trivial, trivial, trivial, trivial, trivial⟩ ?_
              replace h := Option.bind_eq_some_iff.mp h
              obtain ⟨r98, hc98, h⟩ := h
              try dsimp only at h
              refine am_ev_call (.invokevirtual 69) 81 4 820 [.ref 19, .int (1 : Int32), .int (0 : Int32)] [.int r66] rfl rfl rfl rfl (ok_fm_at hc98 D (by omega)) rfl ?_
              refine am_ev_st 1 (f' := am_br (r66 = r98) 86 81 [(2, .int r66), (0, .ref 19), (1, .int v1)] [] (W9 N C E F P Q T G U H B_64 O_64 J_64 (vf_64, vu_64, vx_64) Y Z O9) k n) (g := True ∧ True) (by with_unfolding_all rfl) ⟨trivial, trivial⟩ ?_
              by_cases c99 : r66 = r98
              · rw [if_pos c99] at h
                refine am_ev_pos c99 ?_
                refine am_ev_st 1 (f' := (87, [(2, .int r66), (0, .ref 19), (1, .int v1)], [.int r66], (W9 N C E F P Q T G U H B_64 O_64 J_64 (vf_64, vu_64, vx_64) Y Z O9), k, n)) (g := True ∧ True) (by with_unfolding_all rfl) ⟨trivial, trivial⟩ ?_
                replace h := Option.bind_eq_some_iff.mp h
                obtain ⟨r100, hc100, h⟩ := h
                try dsimp only at h
                refine am_ev_call (.invokestatic 73) 79 2 835 [.int r66] [] rfl rfl rfl rfl (ok_fm_hasParts hc100 D (by omega)) rfl ?_
                refine am_ev_st 1 (f' := am_br ((am_bz r100) = 0) 195 90 [(2, .int r66), (0, .ref 19), (1, .int v1)] [] (W9 N C E F P Q T G U H B_64 O_64 J_64 (vf_64, vu_64, vx_64) Y Z O9) k n) (g := True ∧ True) (by with_unfolding_all rfl) ⟨trivial, trivial⟩ ?_
                by_cases c101 : (am_bz r100) = 0
                · rw [if_pos c101] at h
                  refine am_ev_pos c101 ?_
                  obtain ⟨zw, zc, zz, zl, zr⟩ := Z
                  try dsimp only at h
                  refine am_ev_st 3 (f' := am_br (zw ≤ 0) 206 199 [(2, .int r66), (0, .ref 19), (1, .int v1)] [] (W9 N C E F P Q T G U H B_64 O_64 J_64 (vf_64, vu_64, vx_64) Y (zw, zc, zz, zl, zr) O9) k n) (g := True ∧ True ∧ True ∧ True) (by with_unfolding_all rfl) ⟨trivial, trivial, trivial, trivial⟩ ?_
                  by_cases c102 : zw ≤ 0
                  · rw [if_pos c102] at h
                    refine am_ev_pos c102 ?_
                    refine am_ev_st 4 (f' := am_br ((0 : Int32) ≠ 0) 215 209 [(1, .int (0 : Int32)), (2, .int r66), (0, .ref 19)] [] (W9 N C E F P Q T G U H B_64 O_64 J_64 (vf_64, vu_64, vx_64) Y (zw, zc, zz, zl, zr) O9) k n) (g := True ∧ True ∧ True ∧ True ∧ True) (by with_unfolding_all rfl) ⟨trivial, trivial, trivial, trivial, trivial⟩ ?_
                    by_cases c103 : (0 : Int32) ≠ 0
                    · rw [if_pos c103] at h
                      refine am_ev_pos c103 ?_
                      by_cases g104 : ((zw - (1 : Int32)) < 0 ∨ 400 ≤ ((zw - (1 : Int32))).toNatClampNeg)
                      · rw [if_pos g104] at h; cases h
                      rw [if_neg g104] at h
                      refine am_ev_st 13 (f' := (236, [(1, .int (0 : Int32)), (2, .int r66), (0, .ref 19)], [.int (zr ((zw - (1 : Int32))).toNatClampNeg), .int (1 : Int32), .ref 19], (W9 N C E F P Q T G U H B_64 O_64 J_64 (vf_64, vu_64, vx_64) Y ((zw - (1 : Int32)), zc, zz, zl, zr) O9), k, n)) (g := True ∧ True ∧ True ∧ True ∧ True ∧ True ∧ True ∧ True ∧ True ∧ True ∧ True ∧ True ∧ vp_in ((zw - (1 : Int32))) 400 ∧ True) (by with_unfolding_all rfl) ⟨trivial, trivial, trivial, trivial, trivial, trivial, trivial, trivial, trivial, trivial, trivial, trivial, g104, trivial⟩ ?_
                      replace h := Option.bind_eq_some_iff.mp h
                      obtain ⟨⟨B_105, Z_105⟩, hc105, h⟩ := h
                      try dsimp only at h
                      refine am_ev_call (.invokevirtual 147) 96 4 909 [.ref 19, .int (1 : Int32), .int (zr ((zw - (1 : Int32))).toNatClampNeg)] [] rfl rfl rfl rfl (ok_fm_pop hc105 D (by omega)) rfl ?_
                      obtain ⟨zw_105, zc_105, zz_105, zl_105, zr_105⟩ := Z_105
                      try dsimp only at h
                      by_cases g106 : (zw_105 < 0 ∨ 400 ≤ (zw_105).toNatClampNeg)
                      · rw [if_pos g106] at h; cases h
                      rw [if_neg g106] at h
                      refine am_ev_st 7 (f' := (250, [(1, .int (0 : Int32)), (2, .int r66), (0, .ref 19)], [.int (zl_105 (zw_105).toNatClampNeg), .int (0 : Int32), .ref 19], (W9 N C E F P Q T G U H B_105 O_64 J_64 (vf_64, vu_64, vx_64) Y (zw_105, zc_105, zz_105, zl_105, zr_105) O9), k, n)) (g := True ∧ True ∧ True ∧ True ∧ True ∧ True ∧ vp_in (zw_105) 400 ∧ True) (by with_unfolding_all rfl) ⟨trivial, trivial, trivial, trivial, trivial, trivial, g106, trivial⟩ ?_
                      replace h := Option.bind_eq_some_iff.mp h
                      obtain ⟨⟨B_107, Z_107⟩, hc107, h⟩ := h
                      try dsimp only at h
                      refine am_ev_call (.invokevirtual 147) 96 4 909 [.ref 19, .int (0 : Int32), .int (zl_105 (zw_105).toNatClampNeg)] [] rfl rfl rfl rfl (ok_fm_pop hc107 D (by omega)) rfl ?_
                      refine am_ev_st 1 (f' := (12, [(1, .int (0 : Int32)), (2, .int r66), (0, .ref 19)], [], (W9 N C E F P Q T G U H B_107 O_64 J_64 (vf_64, vu_64, vx_64) Y Z_107 O9), k, n)) (g := True ∧ True) (by with_unfolding_all rfl) ⟨trivial, trivial⟩ ?_
                      refine am_ev_drop [2, 0] rfl rfl ?_
                      exact ih h
                    · rw [if_neg c103] at h
                      refine am_ev_neg c103 ?_
                      refine am_ev_st 1 (f' := (12, [(1, .int (0 : Int32)), (2, .int r66), (0, .ref 19)], [], (W9 N C E F P Q T G U H B_64 O_64 J_64 (vf_64, vu_64, vx_64) Y (zw, zc, zz, zl, zr) O9), k, n)) (g := True ∧ True) (by with_unfolding_all rfl) ⟨trivial, trivial⟩ ?_
                      refine am_ev_drop [2, 0] rfl rfl ?_
                      exact ih h
                  · rw [if_neg c102] at h
                    refine am_ev_neg c102 ?_
                    refine am_ev_st 5 (f' := am_br ((1 : Int32) ≠ 0) 215 209 [(1, .int (1 : Int32)), (2, .int r66), (0, .ref 19)] [] (W9 N C E F P Q T G U H B_64 O_64 J_64 (vf_64, vu_64, vx_64) Y (zw, zc, zz, zl, zr) O9) k n) (g := True ∧ True ∧ True ∧ True ∧ True ∧ True) (by with_unfolding_all rfl) ⟨trivial, trivial, trivial, trivial, trivial, trivial⟩ ?_
                    by_cases c108 : (1 : Int32) ≠ 0
                    · rw [if_pos c108] at h
                      refine am_ev_pos c108 ?_
                      by_cases g109 : ((zw - (1 : Int32)) < 0 ∨ 400 ≤ ((zw - (1 : Int32))).toNatClampNeg)
                      · rw [if_pos g109] at h; cases h
                      rw [if_neg g109] at h
                      refine am_ev_st 13 (f' := (236, [(1, .int (1 : Int32)), (2, .int r66), (0, .ref 19)], [.int (zr ((zw - (1 : Int32))).toNatClampNeg), .int (1 : Int32), .ref 19], (W9 N C E F P Q T G U H B_64 O_64 J_64 (vf_64, vu_64, vx_64) Y ((zw - (1 : Int32)), zc, zz, zl, zr) O9), k, n)) (g := True ∧ True ∧ True ∧ True ∧ True ∧ True ∧ True ∧ True ∧ True ∧ True ∧ True ∧ True ∧ vp_in ((zw - (1 : Int32))) 400 ∧ True) (by with_unfolding_all rfl) ⟨trivial, trivial, trivial, trivial, trivial, trivial, trivial, trivial, trivial, trivial, trivial, trivial, g109, trivial⟩ ?_
                      replace h := Option.bind_eq_some_iff.mp h
                      obtain ⟨⟨B_110, Z_110⟩, hc110, h⟩ := h
                      try dsimp only at h
                      refine am_ev_call (.invokevirtual 147) 96 4 909 [.ref 19, .int (1 : Int32), .int (zr ((zw - (1 : Int32))).toNatClampNeg)] [] rfl rfl rfl rfl (ok_fm_pop hc110 D (by omega)) rfl ?_
                      obtain ⟨zw_110, zc_110, zz_110, zl_110, zr_110⟩ := Z_110
                      try dsimp only at h
                      by_cases g111 : (zw_110 < 0 ∨ 400 ≤ (zw_110).toNatClampNeg)
                      · rw [if_pos g111] at h; cases h
                      rw [if_neg g111] at h
                      refine am_ev_st 7 (f' := (250, [(1, .int (1 : Int32)), (2, .int r66), (0, .ref 19)], [.int (zl_110 (zw_110).toNatClampNeg), .int (0 : Int32), .ref 19], (W9 N C E F P Q T G U H B_110 O_64 J_64 (vf_64, vu_64, vx_64) Y (zw_110, zc_110, zz_110, zl_110, zr_110) O9), k, n)) (g := True ∧ True ∧ True ∧ True ∧ True ∧ True ∧ vp_in (zw_110) 400 ∧ True) (by with_unfolding_all rfl) ⟨trivial, trivial, trivial, trivial, trivial, trivial, g111, trivial⟩ ?_
                      replace h := Option.bind_eq_some_iff.mp h
                      obtain ⟨⟨B_112, Z_112⟩, hc112, h⟩ := h
                      try dsimp only at h
                      refine am_ev_call (.invokevirtual 147) 96 4 909 [.ref 19, .int (0 : Int32), .int (zl_110 (zw_110).toNatClampNeg)] [] rfl rfl rfl rfl (ok_fm_pop hc112 D (by omega)) rfl ?_
                      refine am_ev_st 1 (f' := (12, [(1, .int (1 : Int32)), (2, .int r66), (0, .ref 19)], [], (W9 N C E F P Q T G U H B_112 O_64 J_64 (vf_64, vu_64, vx_64) Y Z_112 O9), k, n)) (g := True ∧ True) (by with_unfolding_all rfl) ⟨trivial, trivial⟩ ?_
                      refine am_ev_drop [2, 0] rfl rfl ?_
                      exact ih h
                    · rw [if_neg c108] at h
                      refine am_ev_neg c108 ?_
                      refine am_ev_st 1 (f' := (12, [(1, .int (1 : Int32)), (2, .int r66), (0, .ref 19)], [], (W9 N C E F P Q T G U H B_64 O_64 J_64 (vf_64, vu_64, vx_64) Y (zw, zc, zz, zl, zr) O9), k, n)) (g := True ∧ True) (by with_unfolding_all rfl) ⟨trivial, trivial⟩ ?_
                      refine am_ev_drop [2, 0] rfl rfl ?_
                      exact ih h
                · rw [if_neg c101] at h
                  refine am_ev_neg c101 ?_
                  refine am_ev_st 3 (f' := (96, [(2, .int r66), (0, .ref 19), (1, .int v1)], [.int (1 : Int32), .int (0 : Int32), .ref 19], (W9 N C E F P Q T G U H B_64 O_64 J_64 (vf_64, vu_64, vx_64) Y Z O9), k, n)) (g := True ∧ True ∧ True ∧ True) (by with_unfolding_all rfl) ⟨trivial, trivial, trivial, trivial⟩ ?_
                  replace h := Option.bind_eq_some_iff.mp h
                  obtain ⟨r113, hc113, h⟩ := h
                  try dsimp only at h
                  refine am_ev_call (.invokevirtual 77) 82 4 853 [.ref 19, .int (0 : Int32), .int (1 : Int32)] [] rfl rfl rfl rfl (ok_fm_endOf hc113 D (by omega)) rfl ?_
                  refine am_ev_st 4 (f' := (103, [(3, .int r113), (2, .int r66), (0, .ref 19), (1, .int v1)], [.int (1 : Int32), .int (1 : Int32), .ref 19], (W9 N C E F P Q T G U H B_64 O_64 J_64 (vf_64, vu_64, vx_64) Y Z O9), k, n)) (g := True ∧ True ∧ True ∧ True ∧ True) (by with_unfolding_all rfl) ⟨trivial, trivial, trivial, trivial, trivial⟩ ?_
                  replace h := Option.bind_eq_some_iff.mp h
                  obtain ⟨r114, hc114, h⟩ := h
                  try dsimp only at h
                  refine am_ev_call (.invokevirtual 77) 82 4 853 [.ref 19, .int (1 : Int32), .int (1 : Int32)] [] rfl rfl rfl rfl (ok_fm_endOf hc114 D (by omega)) rfl ?_
                  obtain ⟨zw, zc, zz, zl, zr⟩ := Z
                  try dsimp only at h
                  obtain ⟨br_64, bl_64⟩ := B_64
                  try dsimp only at h
                  by_cases g115 : ((0 : Int32) < 0 ∨ 96 ≤ ((0 : Int32)).toNatClampNeg)
                  · rw [if_pos g115] at h; cases h
                  rw [if_neg g115] at h
                  by_cases g116 : (zw < 0 ∨ 400 ≤ (zw).toNatClampNeg)
                  · rw [if_pos g116] at h; cases h
                  rw [if_neg g116] at h
                  by_cases g117 : ((1 : Int32) < 0 ∨ 96 ≤ ((1 : Int32)).toNatClampNeg)
                  · rw [if_pos g117] at h; cases h
                  rw [if_neg g117] at h
                  by_cases g118 : (zw < 0 ∨ 400 ≤ (zw).toNatClampNeg)
                  · rw [if_pos g118] at h; cases h
                  rw [if_neg g118] at h
                  refine am_ev_st 26 (f' := (146, [(4, .int r114), (3, .int r113), (2, .int r66), (0, .ref 19), (1, .int v1)], [.int r113, .int (0 : Int32), .ref 19], (W9 N C E F P Q T G U H (br_64, bl_64) O_64 J_64 (vf_64, vu_64, vx_64) Y (zw, zc, zz, (upd zl (zw).toNatClampNeg ((bl_64 ((0 : Int32)).toNatClampNeg) - r113)), (upd zr (zw).toNatClampNeg ((bl_64 ((1 : Int32)).toNatClampNeg) - r114))) O9), k, n)) (g := True ∧ True ∧ True ∧ True ∧ True ∧ True ∧ True ∧ True ∧ vp_in ((0 : Int32)) 96 ∧ True ∧ True ∧ vp_in (zw) 400 ∧ True ∧ True ∧ True ∧ True ∧ True ∧ True ∧ True ∧ vp_in ((1 : Int32)) 96 ∧ True ∧ True ∧ vp_in (zw) 400 ∧ True ∧ True ∧ True ∧ True) (by with_unfolding_all rfl) ⟨trivial, trivial, trivial, trivial, trivial, trivial, trivial, trivial, g115, trivial, trivial, g116, trivial, trivial, trivial, trivial, trivial, trivial, trivial, g117, trivial, trivial, g118, trivial, trivial, trivial, trivial⟩ ?_
                  replace h := Option.bind_eq_some_iff.mp h
                  obtain ⟨Z_119, hc119, h⟩ := h
                  try dsimp only at h
                  refine am_ev_call (.invokevirtual 137) 95 4 905 [.ref 19, .int (0 : Int32), .int r113] [] rfl rfl rfl rfl (ok_fm_pushRest hc119 D (by omega)) rfl ?_
                  refine am_ev_st 3 (f' := (153, [(4, .int r114), (3, .int r113), (2, .int r66), (0, .ref 19), (1, .int v1)], [.int r114, .int (1 : Int32), .ref 19], (W9 N C E F P Q T G U H (br_64, bl_64) O_64 J_64 (vf_64, vu_64, vx_64) Y Z_119 O9), k, n)) (g := True ∧ True ∧ True ∧ True) (by with_unfolding_all rfl) ⟨trivial, trivial, trivial, trivial⟩ ?_
                  replace h := Option.bind_eq_some_iff.mp h
                  obtain ⟨Z_120, hc120, h⟩ := h
                  try dsimp only at h
                  refine am_ev_call (.invokevirtual 137) 95 4 905 [.ref 19, .int (1 : Int32), .int r114] [] rfl rfl rfl rfl (ok_fm_pushRest hc120 D (by omega)) rfl ?_
                  obtain ⟨zw_120, zc_120, zz_120, zl_120, zr_120⟩ := Z_120
                  try dsimp only at h
                  refine am_ev_st 10 (f' := (170, [(4, .int r114), (3, .int r113), (2, .int r66), (0, .ref 19), (1, .int v1)], [.int (1 : Int32), .int (0 : Int32), .int (3 : Int32), .ref 19], (W9 N C E F P Q T G U H (br_64, bl_64) O_64 J_64 (vf_64, vu_64, vx_64) Y ((zw_120 + (1 : Int32)), zc_120, zz_120, zl_120, zr_120) O9), k, n)) (g := True ∧ True ∧ True ∧ True ∧ True ∧ True ∧ True ∧ True ∧ True ∧ True ∧ True) (by with_unfolding_all rfl) ⟨trivial, trivial, trivial, trivial, trivial, trivial, trivial, trivial, trivial, trivial, trivial⟩ ?_
                  replace h := Option.bind_eq_some_iff.mp h
                  obtain ⟨B_121, hc121, h⟩ := h
                  try dsimp only at h
                  refine am_ev_call (.invokevirtual 141) 83 6 849 [.ref 19, .int (3 : Int32), .int (0 : Int32), .int (1 : Int32)] [] rfl rfl rfl rfl (ok_fm_copyPart hc121 D (by omega)) rfl ?_
                  refine am_ev_st 3 (f' := (176, [(4, .int r114), (3, .int r113), (2, .int r66), (0, .ref 19), (1, .int v1)], [.int (3 : Int32), .int (0 : Int32), .ref 19], (W9 N C E F P Q T G U H B_121 O_64 J_64 (vf_64, vu_64, vx_64) Y ((zw_120 + (1 : Int32)), zc_120, zz_120, zl_120, zr_120) O9), k, n)) (g := True ∧ True ∧ True ∧ True) (by with_unfolding_all rfl) ⟨trivial, trivial, trivial, trivial⟩ ?_
                  replace h := Option.bind_eq_some_iff.mp h
                  obtain ⟨B_122, hc122, h⟩ := h
                  try dsimp only at h
                  refine am_ev_call (.invokevirtual 144) 84 4 827 [.ref 19, .int (0 : Int32), .int (3 : Int32)] [] rfl rfl rfl rfl (ok_fm_copy hc122 D (by omega)) rfl ?_
                  refine am_ev_st 4 (f' := (183, [(4, .int r114), (3, .int r113), (2, .int r66), (0, .ref 19), (1, .int v1)], [.int (1 : Int32), .int (1 : Int32), .int (3 : Int32), .ref 19], (W9 N C E F P Q T G U H B_122 O_64 J_64 (vf_64, vu_64, vx_64) Y ((zw_120 + (1 : Int32)), zc_120, zz_120, zl_120, zr_120) O9), k, n)) (g := True ∧ True ∧ True ∧ True ∧ True) (by with_unfolding_all rfl) ⟨trivial, trivial, trivial, trivial, trivial⟩ ?_
                  replace h := Option.bind_eq_some_iff.mp h
                  obtain ⟨B_123, hc123, h⟩ := h
                  try dsimp only at h
                  refine am_ev_call (.invokevirtual 141) 83 6 849 [.ref 19, .int (3 : Int32), .int (1 : Int32), .int (1 : Int32)] [] rfl rfl rfl rfl (ok_fm_copyPart hc123 D (by omega)) rfl ?_
                  refine am_ev_st 3 (f' := (189, [(4, .int r114), (3, .int r113), (2, .int r66), (0, .ref 19), (1, .int v1)], [.int (3 : Int32), .int (1 : Int32), .ref 19], (W9 N C E F P Q T G U H B_123 O_64 J_64 (vf_64, vu_64, vx_64) Y ((zw_120 + (1 : Int32)), zc_120, zz_120, zl_120, zr_120) O9), k, n)) (g := True ∧ True ∧ True ∧ True) (by with_unfolding_all rfl) ⟨trivial, trivial, trivial, trivial⟩ ?_
                  replace h := Option.bind_eq_some_iff.mp h
                  obtain ⟨B_124, hc124, h⟩ := h
                  try dsimp only at h
                  refine am_ev_call (.invokevirtual 144) 84 4 827 [.ref 19, .int (1 : Int32), .int (3 : Int32)] [] rfl rfl rfl rfl (ok_fm_copy hc124 D (by omega)) rfl ?_
                  refine am_ev_st 1 (f' := (12, [(4, .int r114), (3, .int r113), (2, .int r66), (0, .ref 19), (1, .int v1)], [], (W9 N C E F P Q T G U H B_124 O_64 J_64 (vf_64, vu_64, vx_64) Y ((zw_120 + (1 : Int32)), zc_120, zz_120, zl_120, zr_120) O9), k, n)) (g := True ∧ True) (by with_unfolding_all rfl) ⟨trivial, trivial⟩ ?_
                  refine am_ev_drop [3, 4] rfl rfl ?_
                  exact ih h
              · rw [if_neg c99] at h
                refine am_ev_neg c99 ?_
                refine am_ev_st 1 (f' := (85, [(2, .int r66), (0, .ref 19), (1, .int v1)], [.int (0 : Int32)], (W9 N C E F P Q T G U H B_64 O_64 J_64 (vf_64, vu_64, vx_64) Y Z O9), k, n)) (g := True ∧ True) (by with_unfolding_all rfl) ⟨trivial, trivial⟩ ?_
                cases h
                exact am_ev_ret 0 0 0 rfl .boolean rfl am_n0 rfl
          · rw [if_neg c70] at h
            refine am_ev_neg c70 ?_
            refine am_ev_st 1 (f' := (66, [(2, .int r66), (0, .ref 19), (1, .int v1)], [.int (0 : Int32)], (W9 N C E F P Q T G U H B_64 O_64 J_64 (vf_64, vu_64, vx_64) Y Z O9), k, n)) (g := True ∧ True) (by with_unfolding_all rfl) ⟨trivial, trivial⟩ ?_
            cases h
            exact am_ev_ret 0 0 0 rfl .boolean rfl am_n0 rfl
        · rw [if_neg c65] at h
          refine am_ev_neg c65 ?_
          refine am_ev_st 1 (f' := (41, [(0, .ref 19), (1, .int v1)], [.int (0 : Int32)], (W9 N C E F P Q T G U H B_64 O_64 J_64 (vf_64, vu_64, vx_64) Y Z O9), k, n)) (g := True ∧ True) (by with_unfolding_all rfl) ⟨trivial, trivial⟩ ?_
          cases h
          exact am_ev_ret 0 0 0 rfl .boolean rfl am_n0 rfl
set_option maxHeartbeats 4000000 in
set_option maxRecDepth 100000 in
theorem ok_fm_areSame {fl : Nat} {N : cN} {C : cC} {E : cE} {F : cF} {P : cP} {Q : cQ} {T : cT} {G : cG} {U : cU} {H : cH} {B : cB} {O : cO} {J : cJ} {V : cV} {Y : cY} {Z : cZ} {O9 : cO9} {k n : Nat} {rv : Bool} {B' : cB} {O' : cO} {J' : cJ} {V' : cV} {Z' : cZ} (h : fm_areSame fl G B O J V Z = some (rv, B', O', J', V', Z')) (D : Nat) (hD : 5 ≤ D) : am_Call D 97 [.ref 19] (W9 N C E F P Q T G U H B O J V Y Z O9) k n (.inl (some (.int (am_bz rv))), W9 N C E F P Q T G U H B' O' J' V' Y Z' O9, k, n) := by
  unfold fm_areSame at h
  obtain ⟨D, rfl⟩ : ∃ D', D = D' + 1 := ⟨D - 1, by omega⟩
  have hD : 4 ≤ D := by omega
  refine am_call_run (by decide) (by decide) rfl (Nat.le_of_ble_eq_true rfl) (by decide) (L := [(0, .ref 19)]) rfl ?_
  obtain ⟨zw, zc, zz, zl, zr⟩ := Z
  try dsimp only at h
  refine am_ev_st 8 (f' := (12, [(1, .int (1 : Int32)), (0, .ref 19)], [], (W9 N C E F P Q T G U H B O J V Y ((0 : Int32), (0 : Int32), zz, zl, zr) O9), k, n)) (g := True ∧ True ∧ True ∧ True ∧ True ∧ True ∧ True ∧ True ∧ True) (by with_unfolding_all rfl) ⟨trivial, trivial, trivial, trivial, trivial, trivial, trivial, trivial, trivial⟩ ?_
  refine am_ev_drop [1, 0] rfl rfl ?_
  exact ok_lp_fm_areSame_12 h D hD
