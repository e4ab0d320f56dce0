def fm_last (fl : Nat) (G : cG) (B : cB) (O : cO) (J : cJ) (V : cV) (Y : cY) (Z : cZ) (p1 : Int32) : Option (cB × cO × cJ × cV × cY × cZ) :=
  match Y with
  | (yo, ya, ys, yl, yt, yk, yc) =>
  if (p1 < 0 ∨ 40 ≤ (p1).toNatClampNeg) then none else
  (fm_at B (ya (p1).toNatClampNeg) (0 : Int32)).bind fun z2 =>
  match z2 with
  | (r2) =>
  (fm_kindOf r2).bind fun z3 =>
  match z3 with
  | (r3) =>
  if r3 ≠ (4 : Int32) then
  (if r3 ≠ (2 : Int32) then
  ((fm_begin O).bind fun z6 =>
  match z6 with
  | (O_6) =>
  (fm_put O_6 (2 : Int32)).bind fun z7 =>
  match z7 with
  | (O_7) =>
  (fm_endOf fl B (ya (p1).toNatClampNeg) (1 : Int32)).bind fun z8 =>
  match z8 with
  | (r8) =>
  (fm_putAll fl B O_7 (ya (p1).toNatClampNeg) (1 : Int32) r8).bind fun z9 =>
  match z9 with
  | (O_9) =>
  match B with
  | (br, bl) =>
  if ((yt - (1 : Int32)) < 0 ∨ 96 ≤ ((yt - (1 : Int32))).toNatClampNeg) then none else
  (fm_putAll fl B O_9 (yt - (1 : Int32)) (0 : Int32) (bl ((yt - (1 : Int32))).toNatClampNeg)).bind fun z11 =>
  match z11 with
  | (O_11) =>
  (fm_take fl B O_11 J V (ya (p1).toNatClampNeg)).bind fun z12 =>
  match z12 with
  | (r12, B_12, J_12, V_12) =>
  if (am_bz r12) ≠ 0 then
  (some (B_12, O_11, J_12, V_12, ((yo - (1 : Int32)), ya, ys, yl, (yt - (2 : Int32)), (yk - (1 : Int32)), yc), Z))
  else
  some (B_12, O_11, J_12, V_12, (yo, ya, ys, yl, yt, (yk - (1 : Int32)), yc), Z))
  else
  (fm_levelIn fl G B O J V (yt - (1 : Int32))).bind fun z14 =>
  match z14 with
  | (r14, B_14, O_14, J_14, V_14) =>
  match V_14 with
  | (vf_14, vu_14, vx_14) =>
  if vx_14 = 0 then
  (if (p1 < 0 ∨ 40 ≤ (p1).toNatClampNeg) then none else
  if r14 ≤ (yl (p1).toNatClampNeg) then
  (if (p1 < 0 ∨ 40 ≤ (p1).toNatClampNeg) then none else
  (fm_setAtom B_14 (ya (p1).toNatClampNeg) ((1 : Int32) + ((10 : Int32) * (yl (p1).toNatClampNeg)))).bind fun z19 =>
  match z19 with
  | (B_19) =>
  some (B_19, O_14, J_14, V_14, ((yo - (1 : Int32)), ya, ys, yl, (yt - (2 : Int32)), (yk - (1 : Int32)), yc), Z))
  else
  (fm_setAtom B_14 (ya (p1).toNatClampNeg) ((1 : Int32) + ((10 : Int32) * r14))).bind fun z20 =>
  match z20 with
  | (B_20) =>
  some (B_20, O_14, J_14, V_14, ((yo - (1 : Int32)), ya, ys, yl, (yt - (2 : Int32)), (yk - (1 : Int32)), yc), Z))
  else
  some (B_14, O_14, J_14, V_14, Y, Z))
  else
  (fm_copy fl B (0 : Int32) (yt - (1 : Int32))).bind fun z21 =>
  match z21 with
  | (B_21) =>
  (fm_copyPart fl B_21 (1 : Int32) (yt - (2 : Int32)) (1 : Int32)).bind fun z22 =>
  match z22 with
  | (B_22) =>
  (fm_areSame fl G B_22 O J V Z).bind fun z23 =>
  match z23 with
  | (r23, B_23, O_23, J_23, V_23, Z_23) =>
  match V_23 with
  | (vf_23, vu_23, vx_23) =>
  if vx_23 = 0 then
  (if (am_bz r23) ≠ 0 then
  ((fm_endOf fl B_23 (yt - (2 : Int32)) (1 : Int32)).bind fun z26 =>
  match z26 with
  | (r26) =>
  (fm_begin O_23).bind fun z27 =>
  match z27 with
  | (O_27) =>
  match B_23 with
  | (br_23, bl_23) =>
  if ((yt - (2 : Int32)) < 0 ∨ 96 ≤ ((yt - (2 : Int32))).toNatClampNeg) then none else
  (fm_endOf fl B_23 (ya (p1).toNatClampNeg) (1 : Int32)).bind fun z29 =>
  match z29 with
  | (r29) =>
  if ((ya (p1).toNatClampNeg) < 0 ∨ 96 ≤ ((ya (p1).toNatClampNeg)).toNatClampNeg) then none else
  (fm_putFor fl B_23 O_27 J_23 (yt - (2 : Int32)) r26 (bl_23 ((yt - (2 : Int32))).toNatClampNeg) (ya (p1).toNatClampNeg) r29 (bl_23 ((ya (p1).toNatClampNeg)).toNatClampNeg)).bind fun z31 =>
  match z31 with
  | (O_31, J_31) =>
  (fm_take fl B_23 O_31 J_31 V_23 (ya (p1).toNatClampNeg)).bind fun z32 =>
  match z32 with
  | (r32, B_32, J_32, V_32) =>
  if (am_bz r32) ≠ 0 then
  (some (B_32, O_31, J_32, V_32, ((yo - (1 : Int32)), ya, ys, yl, (yt - (2 : Int32)), yk, yc), Z_23))
  else
  some (B_32, O_31, J_32, V_32, Y, Z_23))
  else
  some (B_23, O_23, J_23, (vf_23, vu_23, (2 : Int32)), Y, Z_23))
  else
  some (B_23, O_23, J_23, V_23, Y, Z_23)
set_option maxHeartbeats 4000000 in
set_option maxRecDepth 100000 in
theorem ok_fm_last {fl : Nat} {N : cN} {C : cC} {E : cE} {F : cF} {P : cP} {Q : cQ} {T : cT} {G : cG} {U : cU} {H : cH} {B : cB} {O : cO} {J : cJ} {V : cV} {Y : cY} {Z : cZ} {O9 : cO9} {k n : Nat} {p1 : Int32} {B' : cB} {O' : cO} {J' : cJ} {V' : cV} {Y' : cY} {Z' : cZ} (h : fm_last fl G B O J V Y Z p1 = some (B', O', J', V', Y', Z')) (D : Nat) (hD : 6 ≤ D) : am_Call D 103 [.ref 19, .int p1] (W9 N C E F P Q T G U H B O J V Y Z O9) k n (.inl none, W9 N C E F P Q T G U H B' O' J' V' Y' Z' O9, k, n) := by
  unfold fm_last at h
  obtain ⟨D, rfl⟩ : ∃ D', D = D' + 1 := ⟨D - 1, by omega⟩
  have hD : 5 ≤ D := by omega
  refine am_call_run (by decide) (by decide) rfl (Nat.le_of_ble_eq_true rfl) (by decide) (L := [(0, .ref 19), (1, .int p1)]) rfl ?_
  obtain ⟨yo, ya, ys, yl, yt, yk, yc⟩ := Y
  try dsimp only at h
  by_cases g1 : (p1 < 0 ∨ 40 ≤ (p1).toNatClampNeg)
  · rw [if_pos g1] at h; cases h
  rw [if_neg g1] at h
  refine am_ev_st 8 (f' := (10, [(2, .int (ya (p1).toNatClampNeg)), (0, .ref 19), (1, .int p1)], [.int (0 : Int32), .int (ya (p1).toNatClampNeg), .ref 19], (W9 N C E F P Q T G U H B O J V (yo, ya, ys, yl, yt, yk, yc) Z O9), k, n)) (g := True ∧ True ∧ True ∧ vp_in (p1) 40 ∧ True ∧ True ∧ True ∧ True ∧ True) (by with_unfolding_all rfl) ⟨trivial, trivial, trivial, g1, trivial, trivial, trivial, trivial, trivial⟩ ?_
  replace h := Option.bind_eq_some_iff.mp h
  obtain ⟨r2, hc2, h⟩ := h
  try dsimp only at h
  refine am_ev_call (.invokevirtual 69) 81 4 820 [.ref 19, .int (ya (p1).toNatClampNeg), .int (0 : Int32)] [] rfl rfl rfl rfl (ok_fm_at hc2 D (by omega)) rfl ?_
  replace h := Option.bind_eq_some_iff.mp h
  obtain ⟨r3, hc3, h⟩ := h
  try dsimp only at h
  refine am_ev_call (.invokestatic 80) 78 2 824 [.int r2] [] rfl rfl rfl rfl (ok_fm_kindOf hc3 D (by omega)) rfl ?_
  refine am_ev_st 4 (f' := am_br (r3 ≠ (4 : Int32)) 135 19 [(3, .int r3), (2, .int (ya (p1).toNatClampNeg)), (0, .ref 19), (1, .int p1)] [] (W9 N C E F P Q T G U H B O J V (yo, ya, ys, yl, yt, yk, yc) Z O9) k n) (g := True ∧ True ∧ True ∧ True ∧ True) (by with_unfolding_all rfl) ⟨trivial, trivial, trivial, trivial, trivial⟩ ?_
  by_cases c4 : r3 ≠ (4 : Int32)
  · rw [if_pos c4] at h
    refine am_ev_pos c4 ?_
    refine am_ev_st 3 (f' := am_br (r3 ≠ (2 : Int32)) 205 137 [(3, .int r3), (2, .int (ya (p1).toNatClampNeg)), (0, .ref 19), (1, .int p1)] [] (W9 N C E F P Q T G U H B O J V (yo, ya, ys, yl, yt, yk, yc) Z O9) k n) (g := True ∧ True ∧ True ∧ True) (by with_unfolding_all rfl) ⟨trivial, trivial, trivial, trivial⟩ ?_
    by_cases c5 : r3 ≠ (2 : Int32)
    · rw [if_pos c5] at h
      refine am_ev_pos c5 ?_
      refine am_ev_st 7 (f' := (216, [(3, .int r3), (2, .int (ya (p1).toNatClampNeg)), (0, .ref 19), (1, .int p1)], [.ref 19], (W9 N C E F P Q T G U H B O J V (yo, ya, ys, yl, yt, (yk - (1 : Int32)), yc) Z O9), k, n)) (g := True ∧ True ∧ True ∧ True ∧ True ∧ True ∧ True ∧ True) (by with_unfolding_all rfl) ⟨trivial, trivial, trivial, trivial, trivial, trivial, trivial, trivial⟩ ?_
      replace h := Option.bind_eq_some_iff.mp h
      obtain ⟨O_6, hc6, h⟩ := h
      try dsimp only at h
      refine am_ev_call (.invokevirtual 114) 88 0 865 [.ref 19] [] rfl rfl rfl rfl (ok_fm_begin hc6 D (by omega)) rfl ?_
      refine am_ev_st 2 (f' := (221, [(3, .int r3), (2, .int (ya (p1).toNatClampNeg)), (0, .ref 19), (1, .int p1)], [.int (2 : Int32), .ref 19], (W9 N C E F P Q T G U H B O_6 J V (yo, ya, ys, yl, yt, (yk - (1 : Int32)), yc) Z O9), k, n)) (g := True ∧ True ∧ True) (by with_unfolding_all rfl) ⟨trivial, trivial, trivial⟩ ?_
      replace h := Option.bind_eq_some_iff.mp h
      obtain ⟨O_7, hc7, h⟩ := h
      try dsimp only at h
      refine am_ev_call (.invokevirtual 94) 89 2 873 [.ref 19, .int (2 : Int32)] [] rfl rfl rfl rfl (ok_fm_put hc7 D (by omega)) rfl ?_
      refine am_ev_st 6 (f' := (230, [(3, .int r3), (2, .int (ya (p1).toNatClampNeg)), (0, .ref 19), (1, .int p1)], [.int (1 : Int32), .int (ya (p1).toNatClampNeg), .ref 19, .int (1 : Int32), .int (ya (p1).toNatClampNeg), .ref 19], (W9 N C E F P Q T G U H B O_7 J V (yo, ya, ys, yl, yt, (yk - (1 : Int32)), yc) Z O9), k, n)) (g := True ∧ True ∧ True ∧ True ∧ True ∧ True ∧ True) (by with_unfolding_all rfl) ⟨trivial, trivial, trivial, trivial, trivial, trivial, trivial⟩ ?_
      replace h := Option.bind_eq_some_iff.mp h
      obtain ⟨r8, hc8, h⟩ := h
      try dsimp only at h
      refine am_ev_call (.invokevirtual 77) 82 4 853 [.ref 19, .int (ya (p1).toNatClampNeg), .int (1 : Int32)] [.int (1 : Int32), .int (ya (p1).toNatClampNeg), .ref 19] rfl rfl rfl rfl (ok_fm_endOf hc8 D (by omega)) rfl ?_
      replace h := Option.bind_eq_some_iff.mp h
      obtain ⟨O_9, hc9, h⟩ := h
      try dsimp only at h
      refine am_ev_call (.invokevirtual 117) 90 6 869 [.ref 19, .int (ya (p1).toNatClampNeg), .int (1 : Int32), .int r8] [] rfl rfl rfl rfl (ok_fm_putAll hc9 D (by omega)) rfl ?_
      obtain ⟨br, bl⟩ := B
      try dsimp only at h
      by_cases g10 : ((yt - (1 : Int32)) < 0 ∨ 96 ≤ ((yt - (1 : Int32))).toNatClampNeg)
      · rw [if_pos g10] at h; cases h
      rw [if_neg g10] at h
      refine am_ev_st 13 (f' := (255, [(3, .int r3), (2, .int (ya (p1).toNatClampNeg)), (0, .ref 19), (1, .int p1)], [.int (bl ((yt - (1 : Int32))).toNatClampNeg), .int (0 : Int32), .int (yt - (1 : Int32)), .ref 19], (W9 N C E F P Q T G U H (br, bl) O_9 J V (yo, ya, ys, yl, yt, (yk - (1 : Int32)), yc) Z O9), k, n)) (g := True ∧ True ∧ True ∧ True ∧ True ∧ True ∧ True ∧ True ∧ True ∧ True ∧ True ∧ True ∧ vp_in ((yt - (1 : Int32))) 96 ∧ True) (by with_unfolding_all rfl) ⟨trivial, trivial, trivial, trivial, trivial, trivial, trivial, trivial, trivial, trivial, trivial, trivial, g10, trivial⟩ ?_
      replace h := Option.bind_eq_some_iff.mp h
      obtain ⟨O_11, hc11, h⟩ := h
      try dsimp only at h
      refine am_ev_call (.invokevirtual 117) 90 6 869 [.ref 19, .int (yt - (1 : Int32)), .int (0 : Int32), .int (bl ((yt - (1 : Int32))).toNatClampNeg)] [] rfl rfl rfl rfl (ok_fm_putAll hc11 D (by omega)) rfl ?_
      refine am_ev_st 2 (f' := (260, [(3, .int r3), (2, .int (ya (p1).toNatClampNeg)), (0, .ref 19), (1, .int p1)], [.int (ya (p1).toNatClampNeg), .ref 19], (W9 N C E F P Q T G U H (br, bl) O_11 J V (yo, ya, ys, yl, yt, (yk - (1 : Int32)), yc) Z O9), k, n)) (g := True ∧ True ∧ True) (by with_unfolding_all rfl) ⟨trivial, trivial, trivial⟩ ?_
      replace h := Option.bind_eq_some_iff.mp h
      obtain ⟨⟨r12, B_12, J_12, V_12⟩, hc12, h⟩ := h
      try dsimp only at h
      refine am_ev_call (.invokevirtual 125) 93 2 885 [.ref 19, .int (ya (p1).toNatClampNeg)] [] rfl rfl rfl rfl (ok_fm_take hc12 D (by omega)) rfl ?_
      refine am_ev_st 1 (f' := am_br ((am_bz r12) ≠ 0) 267 263 [(3, .int r3), (2, .int (ya (p1).toNatClampNeg)), (0, .ref 19), (1, .int p1)] [] (W9 N C E F P Q T G U H B_12 O_11 J_12 V_12 (yo, ya, ys, yl, yt, (yk - (1 : Int32)), yc) Z O9) k n) (g := True ∧ True) (by with_unfolding_all rfl) ⟨trivial, trivial⟩ ?_
      by_cases c13 : (am_bz r12) ≠ 0
      · rw [if_pos c13] at h
        refine am_ev_pos c13 ?_
        refine am_ev_st 12 (f' := (287, [(3, .int r3), (2, .int (ya (p1).toNatClampNeg)), (0, .ref 19), (1, .int p1)], [], (W9 N C E F P Q T G U H B_12 O_11 J_12 V_12 ((yo - (1 : Int32)), ya, ys, yl, (yt - (2 : Int32)), (yk - (1 : Int32)), yc) Z O9), k, n)) (g := True ∧ True ∧ True ∧ True ∧ True ∧ True ∧ True ∧ True ∧ True ∧ True ∧ True ∧ True ∧ True) (by with_unfolding_all rfl) ⟨trivial, trivial, trivial, trivial, trivial, trivial, trivial, trivial, trivial, trivial, trivial, trivial, trivial⟩ ?_
        cases h
        exact am_ev_vret 0 0 0 rfl rfl rfl
      · rw [if_neg c13] at h
        refine am_ev_neg c13 ?_
        cases h
        exact am_ev_vret 0 0 0 rfl rfl rfl
    · rw [if_neg c5] at h
      refine am_ev_neg c5 ?_
      refine am_ev_st 5 (f' := (147, [(3, .int r3), (2, .int (ya (p1).toNatClampNeg)), (0, .ref 19), (1, .int p1)], [.int (yt - (1 : Int32)), .ref 19], (W9 N C E F P Q T G U H B O J V (yo, ya, ys, yl, yt, yk, yc) Z O9), k, n)) (g := True ∧ True ∧ True ∧ True ∧ True ∧ True) (by with_unfolding_all rfl) ⟨trivial, trivial, trivial, trivial, trivial, trivial⟩ ?_
      replace h := Option.bind_eq_some_iff.mp h
      obtain ⟨⟨r14, B_14, O_14, J_14, V_14⟩, hc14, h⟩ := h
      try dsimp only at h
      refine am_ev_call (.invokevirtual 171) 99 2 893 [.ref 19, .int (yt - (1 : Int32))] [] rfl rfl rfl rfl (ok_fm_levelIn hc14 D (by omega)) rfl ?_
      obtain ⟨vf_14, vu_14, vx_14⟩ := V_14
      try dsimp only at h
      refine am_ev_st 4 (f' := am_br (vx_14 = 0) 160 156 [(4, .int r14), (3, .int r3), (2, .int (ya (p1).toNatClampNeg)), (0, .ref 19), (1, .int p1)] [] (W9 N C E F P Q T G U H B_14 O_14 J_14 (vf_14, vu_14, vx_14) (yo, ya, ys, yl, yt, yk, yc) Z O9) k n) (g := True ∧ True ∧ True ∧ True ∧ True) (by with_unfolding_all rfl) ⟨trivial, trivial, trivial, trivial, trivial⟩ ?_
      by_cases c15 : vx_14 = 0
      · rw [if_pos c15] at h
        refine am_ev_pos c15 ?_
        by_cases g16 : (p1 < 0 ∨ 40 ≤ (p1).toNatClampNeg)
        · rw [if_pos g16] at h; cases h
        rw [if_neg g16] at h
        refine am_ev_st 16 (f' := am_br (r14 ≤ (yl (p1).toNatClampNeg)) 191 183 [(4, .int r14), (3, .int r3), (2, .int (ya (p1).toNatClampNeg)), (0, .ref 19), (1, .int p1)] [.int (10 : Int32), .int (1 : Int32), .int (ya (p1).toNatClampNeg), .ref 19] (W9 N C E F P Q T G U H B_14 O_14 J_14 (vf_14, vu_14, vx_14) (yo, ya, ys, yl, yt, (yk - (1 : Int32)), yc) Z O9) k n) (g := True ∧ True ∧ True ∧ True ∧ True ∧ True ∧ True ∧ True ∧ True ∧ True ∧ True ∧ True ∧ True ∧ True ∧ vp_in (p1) 40 ∧ True ∧ True) (by with_unfolding_all rfl) ⟨trivial, trivial, trivial, trivial, trivial, trivial, trivial, trivial, trivial, trivial, trivial, trivial, trivial, trivial, g16, trivial, trivial⟩ ?_
        by_cases c17 : r14 ≤ (yl (p1).toNatClampNeg)
        · rw [if_pos c17] at h
          refine am_ev_pos c17 ?_
          by_cases g18 : (p1 < 0 ∨ 40 ≤ (p1).toNatClampNeg)
          · rw [if_pos g18] at h; cases h
          rw [if_neg g18] at h
          refine am_ev_st 6 (f' := (199, [(4, .int r14), (3, .int r3), (2, .int (ya (p1).toNatClampNeg)), (0, .ref 19), (1, .int p1)], [.int ((1 : Int32) + ((10 : Int32) * (yl (p1).toNatClampNeg))), .int (ya (p1).toNatClampNeg), .ref 19], (W9 N C E F P Q T G U H B_14 O_14 J_14 (vf_14, vu_14, vx_14) (yo, ya, ys, yl, yt, (yk - (1 : Int32)), yc) Z O9), k, n)) (g := True ∧ True ∧ True ∧ vp_in (p1) 40 ∧ True ∧ True ∧ True) (by with_unfolding_all rfl) ⟨trivial, trivial, trivial, g18, trivial, trivial, trivial⟩ ?_
          replace h := Option.bind_eq_some_iff.mp h
          obtain ⟨B_19, hc19, h⟩ := h
          try dsimp only at h
          refine am_ev_call (.invokevirtual 165) 85 4 841 [.ref 19, .int (ya (p1).toNatClampNeg), .int ((1 : Int32) + ((10 : Int32) * (yl (p1).toNatClampNeg)))] [] rfl rfl rfl rfl (ok_fm_setAtom hc19 D (by omega)) rfl ?_
          refine am_ev_st 13 (f' := (287, [(4, .int r14), (3, .int r3), (2, .int (ya (p1).toNatClampNeg)), (0, .ref 19), (1, .int p1)], [], (W9 N C E F P Q T G U H B_19 O_14 J_14 (vf_14, vu_14, vx_14) ((yo - (1 : Int32)), ya, ys, yl, (yt - (2 : Int32)), (yk - (1 : Int32)), yc) Z O9), k, n)) (g := True ∧ True ∧ True ∧ True ∧ True ∧ True ∧ True ∧ True ∧ True ∧ True ∧ True ∧ True ∧ True ∧ True) (by with_unfolding_all rfl) ⟨trivial, trivial, trivial, trivial, trivial, trivial, trivial, trivial, trivial, trivial, trivial, trivial, trivial, trivial⟩ ?_
          cases h
          exact am_ev_vret 0 0 0 rfl rfl rfl
        · rw [if_neg c17] at h
          refine am_ev_neg c17 ?_
          refine am_ev_st 4 (f' := (199, [(4, .int r14), (3, .int r3), (2, .int (ya (p1).toNatClampNeg)), (0, .ref 19), (1, .int p1)], [.int ((1 : Int32) + ((10 : Int32) * r14)), .int (ya (p1).toNatClampNeg), .ref 19], (W9 N C E F P Q T G U H B_14 O_14 J_14 (vf_14, vu_14, vx_14) (yo, ya, ys, yl, yt, (yk - (1 : Int32)), yc) Z O9), k, n)) (g := True ∧ True ∧ True ∧ True ∧ True) (by with_unfolding_all rfl) ⟨trivial, trivial, trivial, trivial, trivial⟩ ?_
          replace h := Option.bind_eq_some_iff.mp h
          obtain ⟨B_20, hc20, h⟩ := h
          try dsimp only at h
          refine am_ev_call (.invokevirtual 165) 85 4 841 [.ref 19, .int (ya (p1).toNatClampNeg), .int ((1 : Int32) + ((10 : Int32) * r14))] [] rfl rfl rfl rfl (ok_fm_setAtom hc20 D (by omega)) rfl ?_
          refine am_ev_st 13 (f' := (287, [(4, .int r14), (3, .int r3), (2, .int (ya (p1).toNatClampNeg)), (0, .ref 19), (1, .int p1)], [], (W9 N C E F P Q T G U H B_20 O_14 J_14 (vf_14, vu_14, vx_14) ((yo - (1 : Int32)), ya, ys, yl, (yt - (2 : Int32)), (yk - (1 : Int32)), yc) Z O9), k, n)) (g := True ∧ True ∧ True ∧ True ∧ True ∧ True ∧ True ∧ True ∧ True ∧ True ∧ True ∧ True ∧ True ∧ True) (by with_unfolding_all rfl) ⟨trivial, trivial, trivial, trivial, trivial, trivial, trivial, trivial, trivial, trivial, trivial, trivial, trivial, trivial⟩ ?_
          cases h
          exact am_ev_vret 0 0 0 rfl rfl rfl
      · rw [if_neg c15] at h
        refine am_ev_neg c15 ?_
        cases h
        exact am_ev_vret 0 0 0 rfl rfl rfl
  · rw [if_neg c4] at h
    refine am_ev_neg c4 ?_
    refine am_ev_st 6 (f' := (30, [(3, .int r3), (2, .int (ya (p1).toNatClampNeg)), (0, .ref 19), (1, .int p1)], [.int (yt - (1 : Int32)), .int (0 : Int32), .ref 19], (W9 N C E F P Q T G U H B O J V (yo, ya, ys, yl, yt, yk, yc) Z O9), k, n)) (g := True ∧ True ∧ True ∧ True ∧ True ∧ True ∧ True) (by with_unfolding_all rfl) ⟨trivial, trivial, trivial, trivial, trivial, trivial, trivial⟩ ?_
    replace h := Option.bind_eq_some_iff.mp h
    obtain ⟨B_21, hc21, h⟩ := h
    try dsimp only at h
    refine am_ev_call (.invokevirtual 144) 84 4 827 [.ref 19, .int (0 : Int32), .int (yt - (1 : Int32))] [] rfl rfl rfl rfl (ok_fm_copy hc21 D (by omega)) rfl ?_
    refine am_ev_st 7 (f' := (42, [(3, .int r3), (2, .int (ya (p1).toNatClampNeg)), (0, .ref 19), (1, .int p1)], [.int (1 : Int32), .int (yt - (2 : Int32)), .int (1 : Int32), .ref 19], (W9 N C E F P Q T G U H B_21 O J V (yo, ya, ys, yl, yt, yk, yc) Z O9), k, n)) (g := True ∧ True ∧ True ∧ True ∧ True ∧ True ∧ True ∧ True) (by with_unfolding_all rfl) ⟨trivial, trivial, trivial, trivial, trivial, trivial, trivial, trivial⟩ ?_
    replace h := Option.bind_eq_some_iff.mp h
    obtain ⟨B_22, hc22, h⟩ := h
    try dsimp only at h
    refine am_ev_call (.invokevirtual 141) 83 6 849 [.ref 19, .int (1 : Int32), .int (yt - (2 : Int32)), .int (1 : Int32)] [] rfl rfl rfl rfl (ok_fm_copyPart hc22 D (by omega)) rfl ?_
    refine am_ev_st 1 (f' := (46, [(3, .int r3), (2, .int (ya (p1).toNatClampNeg)), (0, .ref 19), (1, .int p1)], [.ref 19], (W9 N C E F P Q T G U H B_22 O J V (yo, ya, ys, yl, yt, yk, yc) Z O9), k, n)) (g := True ∧ True) (by with_unfolding_all rfl) ⟨trivial, trivial⟩ ?_
    replace h := Option.bind_eq_some_iff.mp h
    obtain ⟨⟨r23, B_23, O_23, J_23, V_23, Z_23⟩, hc23, h⟩ := h
    try dsimp only at h
    refine am_ev_call (.invokevirtual 174) 97 0 901 [.ref 19] [] rfl rfl rfl rfl (ok_fm_areSame hc23 D (by omega)) rfl ?_
    obtain ⟨vf_23, vu_23, vx_23⟩ := V_23
    try dsimp only at h
    refine am_ev_st 4 (f' := am_br (vx_23 = 0) 59 55 [(4, .int (am_bz r23)), (3, .int r3), (2, .int (ya (p1).toNatClampNeg)), (0, .ref 19), (1, .int p1)] [] (W9 N C E F P Q T G U H B_23 O_23 J_23 (vf_23, vu_23, vx_23) (yo, ya, ys, yl, yt, yk, yc) Z_23 O9) k n) (g := True ∧ True ∧ True ∧ True ∧ True) (by with_unfolding_all rfl) ⟨trivial, trivial, trivial, trivial, trivial⟩ ?_
    by_cases c24 : vx_23 = 0
    · rw [if_pos c24] at h
      refine am_ev_pos c24 ?_
      refine am_ev_st 2 (f' := am_br ((am_bz r23) ≠ 0) 70 61 [(4, .int (am_bz r23)), (3, .int r3), (2, .int (ya (p1).toNatClampNeg)), (0, .ref 19), (1, .int p1)] [] (W9 N C E F P Q T G U H B_23 O_23 J_23 (vf_23, vu_23, vx_23) (yo, ya, ys, yl, yt, yk, yc) Z_23 O9) k n) (g := True ∧ True ∧ True) (by with_unfolding_all rfl) ⟨trivial, trivial, trivial⟩ ?_
      by_cases c25 : (am_bz r23) ≠ 0
      · rw [if_pos c25] at h
        refine am_ev_pos c25 ?_
        refine am_ev_st 6 (f' := (78, [(4, .int (am_bz r23)), (3, .int r3), (2, .int (ya (p1).toNatClampNeg)), (0, .ref 19), (1, .int p1)], [.int (1 : Int32), .int (yt - (2 : Int32)), .ref 19], (W9 N C E F P Q T G U H B_23 O_23 J_23 (vf_23, vu_23, vx_23) (yo, ya, ys, yl, yt, yk, yc) Z_23 O9), k, n)) (g := True ∧ True ∧ True ∧ True ∧ True ∧ True ∧ True) (by with_unfolding_all rfl) ⟨trivial, trivial, trivial, trivial, trivial, trivial, trivial⟩ ?_
        replace h := Option.bind_eq_some_iff.mp h
        obtain ⟨r26, hc26, h⟩ := h
        try dsimp only at h
        refine am_ev_call (.invokevirtual 77) 82 4 853 [.ref 19, .int (yt - (2 : Int32)), .int (1 : Int32)] [] rfl rfl rfl rfl (ok_fm_endOf hc26 D (by omega)) rfl ?_
        refine am_ev_st 2 (f' := (84, [(5, .int r26), (4, .int (am_bz r23)), (3, .int r3), (2, .int (ya (p1).toNatClampNeg)), (0, .ref 19), (1, .int p1)], [.ref 19], (W9 N C E F P Q T G U H B_23 O_23 J_23 (vf_23, vu_23, vx_23) (yo, ya, ys, yl, yt, yk, yc) Z_23 O9), k, n)) (g := True ∧ True ∧ True) (by with_unfolding_all rfl) ⟨trivial, trivial, trivial⟩ ?_
        replace h := Option.bind_eq_some_iff.mp h
        obtain ⟨O_27, hc27, h⟩ := h
        try dsimp only at h
        refine am_ev_call (.invokevirtual 114) 88 0 865 [.ref 19] [] rfl rfl rfl rfl (ok_fm_begin hc27 D (by omega)) rfl ?_
        obtain ⟨br_23, bl_23⟩ := B_23
        try dsimp only at h
        by_cases g28 : ((yt - (2 : Int32)) < 0 ∨ 96 ≤ ((yt - (2 : Int32))).toNatClampNeg)
        · rw [if_pos g28] at h; cases h
        rw [if_neg g28] at h
        refine am_ev_st 17 (f' := (111, [(5, .int r26), (4, .int (am_bz r23)), (3, .int r3), (2, .int (ya (p1).toNatClampNeg)), (0, .ref 19), (1, .int p1)], [.int (1 : Int32), .int (ya (p1).toNatClampNeg), .ref 19, .int (ya (p1).toNatClampNeg), .int (bl_23 ((yt - (2 : Int32))).toNatClampNeg), .int r26, .int (yt - (2 : Int32)), .ref 19], (W9 N C E F P Q T G U H (br_23, bl_23) O_27 J_23 (vf_23, vu_23, vx_23) (yo, ya, ys, yl, yt, yk, yc) Z_23 O9), k, n)) (g := True ∧ True ∧ True ∧ True ∧ True ∧ True ∧ True ∧ True ∧ True ∧ True ∧ True ∧ True ∧ vp_in ((yt - (2 : Int32))) 96 ∧ True ∧ True ∧ True ∧ True ∧ True) (by with_unfolding_all rfl) ⟨trivial, trivial, trivial, trivial, trivial, trivial, trivial, trivial, trivial, trivial, trivial, trivial, g28, trivial, trivial, trivial, trivial, trivial⟩ ?_
        replace h := Option.bind_eq_some_iff.mp h
        obtain ⟨r29, hc29, h⟩ := h
        try dsimp only at h
        refine am_ev_call (.invokevirtual 77) 82 4 853 [.ref 19, .int (ya (p1).toNatClampNeg), .int (1 : Int32)] [.int (ya (p1).toNatClampNeg), .int (bl_23 ((yt - (2 : Int32))).toNatClampNeg), .int r26, .int (yt - (2 : Int32)), .ref 19] rfl rfl rfl rfl (ok_fm_endOf hc29 D (by omega)) rfl ?_
        by_cases g30 : ((ya (p1).toNatClampNeg) < 0 ∨ 96 ≤ ((ya (p1).toNatClampNeg)).toNatClampNeg)
        · rw [if_pos g30] at h; cases h
        rw [if_neg g30] at h
        refine am_ev_st 4 (f' := (120, [(5, .int r26), (4, .int (am_bz r23)), (3, .int r3), (2, .int (ya (p1).toNatClampNeg)), (0, .ref 19), (1, .int p1)], [.int (bl_23 ((ya (p1).toNatClampNeg)).toNatClampNeg), .int r29, .int (ya (p1).toNatClampNeg), .int (bl_23 ((yt - (2 : Int32))).toNatClampNeg), .int r26, .int (yt - (2 : Int32)), .ref 19], (W9 N C E F P Q T G U H (br_23, bl_23) O_27 J_23 (vf_23, vu_23, vx_23) (yo, ya, ys, yl, yt, yk, yc) Z_23 O9), k, n)) (g := True ∧ True ∧ True ∧ vp_in ((ya (p1).toNatClampNeg)) 96 ∧ True) (by with_unfolding_all rfl) ⟨trivial, trivial, trivial, g30, trivial⟩ ?_
        replace h := Option.bind_eq_some_iff.mp h
        obtain ⟨⟨O_31, J_31⟩, hc31, h⟩ := h
        try dsimp only at h
        refine am_ev_call (.invokevirtual 121) 92 12 877 [.ref 19, .int (yt - (2 : Int32)), .int r26, .int (bl_23 ((yt - (2 : Int32))).toNatClampNeg), .int (ya (p1).toNatClampNeg), .int r29, .int (bl_23 ((ya (p1).toNatClampNeg)).toNatClampNeg)] [] rfl rfl rfl rfl (ok_fm_putFor hc31 D (by omega)) rfl ?_
        refine am_ev_st 2 (f' := (125, [(5, .int r26), (4, .int (am_bz r23)), (3, .int r3), (2, .int (ya (p1).toNatClampNeg)), (0, .ref 19), (1, .int p1)], [.int (ya (p1).toNatClampNeg), .ref 19], (W9 N C E F P Q T G U H (br_23, bl_23) O_31 J_31 (vf_23, vu_23, vx_23) (yo, ya, ys, yl, yt, yk, yc) Z_23 O9), k, n)) (g := True ∧ True ∧ True) (by with_unfolding_all rfl) ⟨trivial, trivial, trivial⟩ ?_
        replace h := Option.bind_eq_some_iff.mp h
        obtain ⟨⟨r32, B_32, J_32, V_32⟩, hc32, h⟩ := h
        try dsimp only at h
        refine am_ev_call (.invokevirtual 125) 93 2 885 [.ref 19, .int (ya (p1).toNatClampNeg)] [] rfl rfl rfl rfl (ok_fm_take hc32 D (by omega)) rfl ?_
        refine am_ev_st 1 (f' := am_br ((am_bz r32) ≠ 0) 132 128 [(5, .int r26), (4, .int (am_bz r23)), (3, .int r3), (2, .int (ya (p1).toNatClampNeg)), (0, .ref 19), (1, .int p1)] [] (W9 N C E F P Q T G U H B_32 O_31 J_32 V_32 (yo, ya, ys, yl, yt, yk, yc) Z_23 O9) k n) (g := True ∧ True) (by with_unfolding_all rfl) ⟨trivial, trivial⟩ ?_
        by_cases c33 : (am_bz r32) ≠ 0
        · rw [if_pos c33] at h
          refine am_ev_pos c33 ?_
          refine am_ev_st 13 (f' := (287, [(5, .int r26), (4, .int (am_bz r23)), (3, .int r3), (2, .int (ya (p1).toNatClampNeg)), (0, .ref 19), (1, .int p1)], [], (W9 N C E F P Q T G U H B_32 O_31 J_32 V_32 ((yo - (1 : Int32)), ya, ys, yl, (yt - (2 : Int32)), yk, yc) Z_23 O9), k, n)) (g := True ∧ True ∧ True ∧ True ∧ True ∧ True ∧ True ∧ True ∧ True ∧ True ∧ True ∧ True ∧ True ∧ True) (by with_unfolding_all rfl) ⟨trivial, trivial, trivial, trivial, trivial, trivial, trivial, trivial, trivial, trivial, trivial, trivial, trivial, trivial⟩ ?_
          cases h
          exact am_ev_vret 0 0 0 rfl rfl rfl
        · rw [if_neg c33] at h
          refine am_ev_neg c33 ?_
          cases h
          exact am_ev_vret 0 0 0 rfl rfl rfl
      · rw [if_neg c25] at h
        refine am_ev_neg c25 ?_
        refine am_ev_st 3 (f' := (69, [(4, .int (am_bz r23)), (3, .int r3), (2, .int (ya (p1).toNatClampNeg)), (0, .ref 19), (1, .int p1)], [], (W9 N C E F P Q T G U H B_23 O_23 J_23 (vf_23, vu_23, (2 : Int32)) (yo, ya, ys, yl, yt, yk, yc) Z_23 O9), k, n)) (g := True ∧ True ∧ True ∧ True) (by with_unfolding_all rfl) ⟨trivial, trivial, trivial, trivial⟩ ?_
        cases h
        exact am_ev_vret 0 0 0 rfl rfl rfl
    · rw [if_neg c24] at h
      refine am_ev_neg c24 ?_
      cases h
      exact am_ev_vret 0 0 0 rfl rfl rfl
def lp_fm_toType_28 (fl : Nat) : Nat → cG → cB → cO → cJ → cV → cY → cZ → Int32 → Option (cB × cO × cJ × cV × cY × cZ)
  | 0, _, _, _, _, _, _, _, _ => none
  | w + 1, G, B, O, J, V, Y, Z, v1 =>
    match Y with
    | (yo, ya, ys, yl, yt, yk, yc) =>
    if yo ≤ 0 then
    (some (B, O, J, V, Y, Z))
    else
    match V with
    | (vf, vu, vx) =>
    if vx ≠ 0 then
    (some (B, O, J, V, Y, Z))
    else
    if ((yo - (1 : Int32)) < 0 ∨ 40 ≤ ((yo - (1 : Int32))).toNatClampNeg) then none else
    if (ys ((yo - (1 : Int32))).toNatClampNeg) ≠ 0 then
    (if ((yo - (1 : Int32)) < 0 ∨ 40 ≤ ((yo - (1 : Int32))).toNatClampNeg) then none else
    if (ys ((yo - (1 : Int32))).toNatClampNeg) ≠ (1 : Int32) then
    ((fm_last fl G B O J V Y Z (yo - (1 : Int32))).bind fun z9 =>
    match z9 with
    | (B_9, O_9, J_9, V_9, Y_9, Z_9) =>
    lp_fm_toType_28 fl w G B_9 O_9 J_9 V_9 Y_9 Z_9 v1)
    else
    (fm_second fl G B O J V Y (yo - (1 : Int32))).bind fun z10 =>
    match z10 with
    | (B_10, O_10, J_10, V_10, Y_10) =>
    lp_fm_toType_28 fl w G B_10 O_10 J_10 V_10 Y_10 Z v1)
    else
    (fm_start fl B J V Y (yo - (1 : Int32))).bind fun z11 =>
    match z11 with
    | (B_11, J_11, V_11, Y_11) =>
    lp_fm_toType_28 fl w G B_11 O J_11 V_11 Y_11 Z v1
def fm_toType (fl : Nat) (G : cG) (B : cB) (O : cO) (J : cJ) (V : cV) (Y : cY) (Z : cZ) (p1 : Int32) : Option (cB × cO × cJ × cV × cY × cZ) :=
  match V with
  | (vf, vu, vx) =>
  if vx = 0 then
  (match Y with
  | (yo, ya, ys, yl, yt, yk, yc) =>
  (fm_ask ((0 : Int32), ya, ys, yl, (4 : Int32), (0 : Int32), yc) p1).bind fun z2 =>
  match z2 with
  | (Y_2) =>
  lp_fm_toType_28 fl fl G B O J V Y_2 Z p1)
  else
  some (B, O, J, V, Y, Z)
set_option maxHeartbeats 4000000 in
set_option maxRecDepth 100000 in
theorem ok_lp_fm_toType_28 {fl : Nat} : ∀ {w : Nat} {N : cN} {C : cC} {E : cE} {F : cF} {P : cP} {Q : cQ} {T : cT} {G : cG} {U : cU} {H : cH} {B : cB} {O : cO} {J : cJ} {V : cV} {Y : cY} {Z : cZ} {O9 : cO9} {k n : Nat} {v1 : Int32} {B' : cB} {O' : cO} {J' : cJ} {V' : cV} {Y' : cY} {Z' : cZ} (h : lp_fm_toType_28 fl w G B O J V Y Z v1 = some (B', O', J', V', Y', Z')) (D : Nat) (hD : 6 ≤ D), am_Ev D 104 0 (fun _ => 0) (28, [(0, .ref 19), (1, .int v1)], [], (W9 N C E F P Q T G U H B O J V Y Z O9), k, n) (.inl none, W9 N C E F P Q T G U H B' O' J' V' Y' Z' O9, k, n) := by
  intro w
  induction w with
  | zero => intros; rename_i h _ _; cases h
  | succ w ih0 =>
    intro N C E F P Q T G U H B O J V Y Z O9 k n v1 B' O' J' V' Y' Z' h D hD
    have ih := fun {N} {C} {E} {F} {P} {Q} {T} {G} {U} {H} {B} {O} {J} {V} {Y} {Z} {O9} {k} {n} {v1} {B'} {O'} {J'} {V'} {Y'} {Z'} h => @ih0 N C E F P Q T G U H B O J V Y Z O9 k n v1 B' O' J' V' Y' Z' h D hD
    unfold lp_fm_toType_28 at h
    obtain ⟨yo, ya, ys, yl, yt, yk, yc⟩ := Y
    try dsimp only at h
    refine am_ev_st 3 (f' := am_br (yo ≤ 0) 92 32 [(0, .ref 19), (1, .int v1)] [] (W9 N C E F P Q T G U H B O J V (yo, ya, ys, yl, yt, yk, yc) Z O9) k n) (g := True ∧ True ∧ True ∧ True) (by with_unfolding_all rfl) ⟨trivial, trivial, trivial, trivial⟩ ?_
    by_cases c3 : yo ≤ 0
    · rw [if_pos c3] at h
      refine am_ev_pos c3 ?_
      cases h
      exact am_ev_vret 0 0 0 rfl rfl rfl
    · rw [if_neg c3] at h
      refine am_ev_neg c3 ?_
      obtain ⟨vf, vu, vx⟩ := V
      try dsimp only at h
      refine am_ev_st 3 (f' := am_br (vx ≠ 0) 92 39 [(0, .ref 19), (1, .int v1)] [] (W9 N C E F P Q T G U H B O J (vf, vu, vx) (yo, ya, ys, yl, yt, yk, yc) Z O9) k n) (g := True ∧ True ∧ True ∧ True) (by with_unfolding_all rfl) ⟨trivial, trivial, trivial, trivial⟩ ?_
      by_cases c4 : vx ≠ 0
      · rw [if_pos c4] at h
        refine am_ev_pos c4 ?_
        cases h
        exact am_ev_vret 0 0 0 rfl rfl rfl
      · rw [if_neg c4] at h
        refine am_ev_neg c4 ?_
        by_cases g5 : ((yo - (1 : Int32)) < 0 ∨ 40 ≤ ((yo - (1 : Int32))).toNatClampNeg)
        · rw [if_pos g5] at h; cases h
        rw [if_neg g5] at h
        refine am_ev_st 10 (f' := am_br ((ys ((yo - (1 : Int32))).toNatClampNeg) ≠ 0) 66 55 [(2, .int (yo - (1 : Int32))), (0, .ref 19), (1, .int v1)] [] (W9 N C E F P Q T G U H B O J (vf, vu, vx) (yo, ya, ys, yl, yt, yk, yc) Z O9) k n) (g := True ∧ True ∧ True ∧ True ∧ True ∧ True ∧ True ∧ True ∧ vp_in ((yo - (1 : Int32))) 40 ∧ True ∧ True) (by with_unfolding_all rfl) ⟨trivial, trivial, trivial, trivial, trivial, trivial, trivial, trivial, g5, trivial, trivial⟩ ?_
        by_cases c6 : (ys ((yo - (1 : Int32))).toNatClampNeg) ≠ 0
        · rw [if_pos c6] at h
          refine am_ev_pos c6 ?_
          by_cases g7 : ((yo - (1 : Int32)) < 0 ∨ 40 ≤ ((yo - (1 : Int32))).toNatClampNeg)
          · rw [if_pos g7] at h; cases h
          rw [if_neg g7] at h
          refine am_ev_st 6 (f' := am_br ((ys ((yo - (1 : Int32))).toNatClampNeg) ≠ (1 : Int32)) 84 73 [(2, .int (yo - (1 : Int32))), (0, .ref 19), (1, .int v1)] [] (W9 N C E F P Q T G U H B O J (vf, vu, vx) (yo, ya, ys, yl, yt, yk, yc) Z O9) k n) (g := True ∧ True ∧ True ∧ vp_in ((yo - (1 : Int32))) 40 ∧ True ∧ True ∧ True) (by with_unfolding_all rfl) ⟨trivial, trivial, trivial, g7, trivial, trivial, trivial⟩ ?_
          by_cases c8 : (ys ((yo - (1 : Int32))).toNatClampNeg) ≠ (1 : Int32)
          · rw [if_pos c8] at h
            refine am_ev_pos c8 ?_
            refine am_ev_st 2 (f' := (86, [(2, .int (yo - (1 : Int32))), (0, .ref 19), (1, .int v1)], [.int (yo - (1 : Int32)), .ref 19], (W9 N C E F P Q T G U H B O J (vf, vu, vx) (yo, ya, ys, yl, yt, yk, yc) Z O9), k, n)) (g := True ∧ True ∧ True) (by with_unfolding_all rfl) ⟨trivial, trivial, trivial⟩ ?_
            replace h := Option.bind_eq_some_iff.mp h
            obtain ⟨⟨B_9, O_9, J_9, V_9, Y_9, Z_9⟩, hc9, h⟩ := h
            try dsimp only at h
            refine am_ev_call (.invokevirtual 184) 103 2 897 [.ref 19, .int (yo - (1 : Int32))] [] rfl rfl rfl rfl (ok_fm_last hc9 D (by omega)) rfl ?_
            refine am_ev_st 1 (f' := (28, [(2, .int (yo - (1 : Int32))), (0, .ref 19), (1, .int v1)], [], (W9 N C E F P Q T G U H B_9 O_9 J_9 V_9 Y_9 Z_9 O9), k, n)) (g := True ∧ True) (by with_unfolding_all rfl) ⟨trivial, trivial⟩ ?_
            refine am_ev_drop [1, 2] rfl rfl ?_
            exact ih h
          · rw [if_neg c8] at h
            refine am_ev_neg c8 ?_
            refine am_ev_st 2 (f' := (78, [(2, .int (yo - (1 : Int32))), (0, .ref 19), (1, .int v1)], [.int (yo - (1 : Int32)), .ref 19], (W9 N C E F P Q T G U H B O J (vf, vu, vx) (yo, ya, ys, yl, yt, yk, yc) Z O9), k, n)) (g := True ∧ True ∧ True) (by with_unfolding_all rfl) ⟨trivial, trivial, trivial⟩ ?_
            replace h := Option.bind_eq_some_iff.mp h
            obtain ⟨⟨B_10, O_10, J_10, V_10, Y_10⟩, hc10, h⟩ := h
            try dsimp only at h
            refine am_ev_call (.invokevirtual 181) 102 2 857 [.ref 19, .int (yo - (1 : Int32))] [] rfl rfl rfl rfl (ok_fm_second hc10 D (by omega)) rfl ?_
            refine am_ev_st 2 (f' := (28, [(2, .int (yo - (1 : Int32))), (0, .ref 19), (1, .int v1)], [], (W9 N C E F P Q T G U H B_10 O_10 J_10 V_10 Y_10 Z O9), k, n)) (g := True ∧ True ∧ True) (by with_unfolding_all rfl) ⟨trivial, trivial, trivial⟩ ?_
            refine am_ev_drop [1, 2] rfl rfl ?_
            exact ih h
        · rw [if_neg c6] at h
          refine am_ev_neg c6 ?_
          refine am_ev_st 2 (f' := (60, [(2, .int (yo - (1 : Int32))), (0, .ref 19), (1, .int v1)], [.int (yo - (1 : Int32)), .ref 19], (W9 N C E F P Q T G U H B O J (vf, vu, vx) (yo, ya, ys, yl, yt, yk, yc) Z O9), k, n)) (g := True ∧ True ∧ True) (by with_unfolding_all rfl) ⟨trivial, trivial, trivial⟩ ?_
          replace h := Option.bind_eq_some_iff.mp h
          obtain ⟨⟨B_11, J_11, V_11, Y_11⟩, hc11, h⟩ := h
          try dsimp only at h
          refine am_ev_call (.invokevirtual 178) 101 2 816 [.ref 19, .int (yo - (1 : Int32))] [] rfl rfl rfl rfl (ok_fm_start hc11 D (by omega)) rfl ?_
          refine am_ev_st 2 (f' := (28, [(2, .int (yo - (1 : Int32))), (0, .ref 19), (1, .int v1)], [], (W9 N C E F P Q T G U H B_11 O J_11 V_11 Y_11 Z O9), k, n)) (g := True ∧ True ∧ True) (by with_unfolding_all rfl) ⟨trivial, trivial, trivial⟩ ?_
          refine am_ev_drop [1, 2] rfl rfl ?_
          exact ih h
set_option maxHeartbeats 4000000 in
set_option maxRecDepth 100000 in
theorem ok_fm_toType {fl : Nat} {N : cN} {C : cC} {E : cE} {F : cF} {P : cP} {Q : cQ} {T : cT} {G : cG} {U : cU} {H : cH} {B : cB} {O : cO} {J : cJ} {V : cV} {Y : cY} {Z : cZ} {O9 : cO9} {k n : Nat} {p1 : Int32} {B' : cB} {O' : cO} {J' : cJ} {V' : cV} {Y' : cY} {Z' : cZ} (h : fm_toType fl G B O J V Y Z p1 = some (B', O', J', V', Y', Z')) (D : Nat) (hD : 7 ≤ D) : am_Call D 104 [.ref 19, .int p1] (W9 N C E F P Q T G U H B O J V Y Z O9) k n (.inl none, W9 N C E F P Q T G U H B' O' J' V' Y' Z' O9, k, n) := by
  unfold fm_toType at h
  obtain ⟨D, rfl⟩ : ∃ D', D = D' + 1 := ⟨D - 1, by omega⟩
  have hD : 6 ≤ D := by omega
  refine am_call_run (by decide) (by decide) rfl (Nat.le_of_ble_eq_true rfl) (by decide) (L := [(0, .ref 19), (1, .int p1)]) rfl ?_
  obtain ⟨vf, vu, vx⟩ := V
  try dsimp only at h
  refine am_ev_st 3 (f' := am_br (vx = 0) 8 4 [(0, .ref 19), (1, .int p1)] [] (W9 N C E F P Q T G U H B O J (vf, vu, vx) Y Z O9) k n) (g := True ∧ True ∧ True ∧ True) (by with_unfolding_all rfl) ⟨trivial, trivial, trivial, trivial⟩ ?_
  by_cases c1 : vx = 0
  · rw [if_pos c1] at h
    refine am_ev_pos c1 ?_
    obtain ⟨yo, ya, ys, yl, yt, yk, yc⟩ := Y
    try dsimp only at h
    refine am_ev_st 11 (f' := (25, [(0, .ref 19), (1, .int p1)], [.int p1, .ref 19], (W9 N C E F P Q T G U H B O J (vf, vu, vx) ((0 : Int32), ya, ys, yl, (4 : Int32), (0 : Int32), yc) Z O9), k, n)) (g := True ∧ True ∧ True ∧ True ∧ True ∧ True ∧ True ∧ True ∧ True ∧ True ∧ True ∧ True) (by with_unfolding_all rfl) ⟨trivial, trivial, trivial, trivial, trivial, trivial, trivial, trivial, trivial, trivial, trivial, trivial⟩ ?_
    replace h := Option.bind_eq_some_iff.mp h
    obtain ⟨Y_2, hc2, h⟩ := h
    try dsimp only at h
    refine am_ev_call (.invokevirtual 156) 98 2 812 [.ref 19, .int p1] [] rfl rfl rfl rfl (ok_fm_ask hc2 D (by omega)) rfl ?_
    exact ok_lp_fm_toType_28 h D hD
  · rw [if_neg c1] at h
    refine am_ev_neg c1 ?_
    cases h
    exact am_ev_vret 0 0 0 rfl rfl rfl
def lp_fm_load_12 (fl : Nat) : Nat → cT → cB → cJ → Int32 → Int32 → Int32 → Int32 → Option (cB × cJ)
  | 0, _, _, _, _, _, _, _ => none
  | w + 1, T, B, J, v1, v2, v3, v4 =>
    if v3 ≤ 0 then
    (match B with
    | (br, bl) =>
    if (v1 < 0 ∨ 96 ≤ (v1).toNatClampNeg) then none else
    some ((br, (upd bl (v1).toNatClampNeg v4)), J))
    else
    match J with
    | (jp, ji) =>
    match T with
    | (te, tk, ta, tb, tn, td) =>
    if ((v3 + (-1 : Int32)) < 0 ∨ 130 ≤ ((v3 + (-1 : Int32))).toNatClampNeg) then none else
    if ((jp ((v3 + (-1 : Int32))).toNatClampNeg) < 0 ∨ 120 ≤ ((jp ((v3 + (-1 : Int32))).toNatClampNeg)).toNatClampNeg) then none else
    if (tk ((jp ((v3 + (-1 : Int32))).toNatClampNeg)).toNatClampNeg) < (2 : Int32) then
    (if (0 : Int32) = 0 then
    (match B with
    | (br, bl) =>
    if ((jp ((v3 + (-1 : Int32))).toNatClampNeg) < 0 ∨ 120 ≤ ((jp ((v3 + (-1 : Int32))).toNatClampNeg)).toNatClampNeg) then none else
    if ((jp ((v3 + (-1 : Int32))).toNatClampNeg) < 0 ∨ 120 ≤ ((jp ((v3 + (-1 : Int32))).toNatClampNeg)).toNatClampNeg) then none else
    if ((((60 : Int32) * v1) + v4) < 0 ∨ 5760 ≤ ((((60 : Int32) * v1) + v4)).toNatClampNeg) then none else
    if (0 : Int32) ≠ 0 then
    (if ((jp ((v3 + (-1 : Int32))).toNatClampNeg) < 0 ∨ 120 ≤ ((jp ((v3 + (-1 : Int32))).toNatClampNeg)).toNatClampNeg) then none else
    if ((v3 + (-1 : Int32)) < 0 ∨ 130 ≤ ((v3 + (-1 : Int32))).toNatClampNeg) then none else
    if ((jp ((v3 + (-1 : Int32))).toNatClampNeg) < 0 ∨ 120 ≤ ((jp ((v3 + (-1 : Int32))).toNatClampNeg)).toNatClampNeg) then none else
    if (((v3 + (-1 : Int32)) + (1 : Int32)) < 0 ∨ 130 ≤ (((v3 + (-1 : Int32)) + (1 : Int32))).toNatClampNeg) then none else
    lp_fm_load_12 fl w T ((upd br ((((60 : Int32) * v1) + v4)).toNatClampNeg ((tk ((jp ((v3 + (-1 : Int32))).toNatClampNeg)).toNatClampNeg) + ((10 : Int32) * (ta ((jp ((v3 + (-1 : Int32))).toNatClampNeg)).toNatClampNeg)))), bl) ((upd (upd jp ((v3 + (-1 : Int32))).toNatClampNeg (tb ((jp ((v3 + (-1 : Int32))).toNatClampNeg)).toNatClampNeg)) (((v3 + (-1 : Int32)) + (1 : Int32))).toNatClampNeg (ta ((jp ((v3 + (-1 : Int32))).toNatClampNeg)).toNatClampNeg)), ji) v1 v2 ((v3 + (-1 : Int32)) + (2 : Int32)) (v4 + (1 : Int32)))
    else
    lp_fm_load_12 fl w T ((upd br ((((60 : Int32) * v1) + v4)).toNatClampNeg ((tk ((jp ((v3 + (-1 : Int32))).toNatClampNeg)).toNatClampNeg) + ((10 : Int32) * (ta ((jp ((v3 + (-1 : Int32))).toNatClampNeg)).toNatClampNeg)))), bl) J v1 v2 (v3 + (-1 : Int32)) (v4 + (1 : Int32)))
    else
    match B with
    | (br, bl) =>
    if ((jp ((v3 + (-1 : Int32))).toNatClampNeg) < 0 ∨ 120 ≤ ((jp ((v3 + (-1 : Int32))).toNatClampNeg)).toNatClampNeg) then none else
    if ((((60 : Int32) * v1) + v4) < 0 ∨ 5760 ≤ ((((60 : Int32) * v1) + v4)).toNatClampNeg) then none else
    if (0 : Int32) ≠ 0 then
    (if ((jp ((v3 + (-1 : Int32))).toNatClampNeg) < 0 ∨ 120 ≤ ((jp ((v3 + (-1 : Int32))).toNatClampNeg)).toNatClampNeg) then none else
    if ((v3 + (-1 : Int32)) < 0 ∨ 130 ≤ ((v3 + (-1 : Int32))).toNatClampNeg) then none else
    if ((jp ((v3 + (-1 : Int32))).toNatClampNeg) < 0 ∨ 120 ≤ ((jp ((v3 + (-1 : Int32))).toNatClampNeg)).toNatClampNeg) then none else
    if (((v3 + (-1 : Int32)) + (1 : Int32)) < 0 ∨ 130 ≤ (((v3 + (-1 : Int32)) + (1 : Int32))).toNatClampNeg) then none else
    lp_fm_load_12 fl w T ((upd br ((((60 : Int32) * v1) + v4)).toNatClampNeg (tk ((jp ((v3 + (-1 : Int32))).toNatClampNeg)).toNatClampNeg)), bl) ((upd (upd jp ((v3 + (-1 : Int32))).toNatClampNeg (tb ((jp ((v3 + (-1 : Int32))).toNatClampNeg)).toNatClampNeg)) (((v3 + (-1 : Int32)) + (1 : Int32))).toNatClampNeg (ta ((jp ((v3 + (-1 : Int32))).toNatClampNeg)).toNatClampNeg)), ji) v1 v2 ((v3 + (-1 : Int32)) + (2 : Int32)) (v4 + (1 : Int32)))
    else
    lp_fm_load_12 fl w T ((upd br ((((60 : Int32) * v1) + v4)).toNatClampNeg (tk ((jp ((v3 + (-1 : Int32))).toNatClampNeg)).toNatClampNeg)), bl) J v1 v2 (v3 + (-1 : Int32)) (v4 + (1 : Int32)))
    else
    if ((jp ((v3 + (-1 : Int32))).toNatClampNeg) < 0 ∨ 120 ≤ ((jp ((v3 + (-1 : Int32))).toNatClampNeg)).toNatClampNeg) then none else
    if (4 : Int32) < (tk ((jp ((v3 + (-1 : Int32))).toNatClampNeg)).toNatClampNeg) then
    (if (0 : Int32) = 0 then
    (match B with
    | (br, bl) =>
    if ((jp ((v3 + (-1 : Int32))).toNatClampNeg) < 0 ∨ 120 ≤ ((jp ((v3 + (-1 : Int32))).toNatClampNeg)).toNatClampNeg) then none else
    if ((jp ((v3 + (-1 : Int32))).toNatClampNeg) < 0 ∨ 120 ≤ ((jp ((v3 + (-1 : Int32))).toNatClampNeg)).toNatClampNeg) then none else
    if ((((60 : Int32) * v1) + v4) < 0 ∨ 5760 ≤ ((((60 : Int32) * v1) + v4)).toNatClampNeg) then none else
    if (0 : Int32) ≠ 0 then
    (if ((jp ((v3 + (-1 : Int32))).toNatClampNeg) < 0 ∨ 120 ≤ ((jp ((v3 + (-1 : Int32))).toNatClampNeg)).toNatClampNeg) then none else
    if ((v3 + (-1 : Int32)) < 0 ∨ 130 ≤ ((v3 + (-1 : Int32))).toNatClampNeg) then none else
    if ((jp ((v3 + (-1 : Int32))).toNatClampNeg) < 0 ∨ 120 ≤ ((jp ((v3 + (-1 : Int32))).toNatClampNeg)).toNatClampNeg) then none else
    if (((v3 + (-1 : Int32)) + (1 : Int32)) < 0 ∨ 130 ≤ (((v3 + (-1 : Int32)) + (1 : Int32))).toNatClampNeg) then none else
    lp_fm_load_12 fl w T ((upd br ((((60 : Int32) * v1) + v4)).toNatClampNeg ((tk ((jp ((v3 + (-1 : Int32))).toNatClampNeg)).toNatClampNeg) + ((10 : Int32) * (ta ((jp ((v3 + (-1 : Int32))).toNatClampNeg)).toNatClampNeg)))), bl) ((upd (upd jp ((v3 + (-1 : Int32))).toNatClampNeg (tb ((jp ((v3 + (-1 : Int32))).toNatClampNeg)).toNatClampNeg)) (((v3 + (-1 : Int32)) + (1 : Int32))).toNatClampNeg (ta ((jp ((v3 + (-1 : Int32))).toNatClampNeg)).toNatClampNeg)), ji) v1 v2 ((v3 + (-1 : Int32)) + (2 : Int32)) (v4 + (1 : Int32)))
    else
    lp_fm_load_12 fl w T ((upd br ((((60 : Int32) * v1) + v4)).toNatClampNeg ((tk ((jp ((v3 + (-1 : Int32))).toNatClampNeg)).toNatClampNeg) + ((10 : Int32) * (ta ((jp ((v3 + (-1 : Int32))).toNatClampNeg)).toNatClampNeg)))), bl) J v1 v2 (v3 + (-1 : Int32)) (v4 + (1 : Int32)))
    else
    match B with
    | (br, bl) =>
    if ((jp ((v3 + (-1 : Int32))).toNatClampNeg) < 0 ∨ 120 ≤ ((jp ((v3 + (-1 : Int32))).toNatClampNeg)).toNatClampNeg) then none else
    if ((((60 : Int32) * v1) + v4) < 0 ∨ 5760 ≤ ((((60 : Int32) * v1) + v4)).toNatClampNeg) then none else
    if (0 : Int32) ≠ 0 then
    (if ((jp ((v3 + (-1 : Int32))).toNatClampNeg) < 0 ∨ 120 ≤ ((jp ((v3 + (-1 : Int32))).toNatClampNeg)).toNatClampNeg) then none else
    if ((v3 + (-1 : Int32)) < 0 ∨ 130 ≤ ((v3 + (-1 : Int32))).toNatClampNeg) then none else
    if ((jp ((v3 + (-1 : Int32))).toNatClampNeg) < 0 ∨ 120 ≤ ((jp ((v3 + (-1 : Int32))).toNatClampNeg)).toNatClampNeg) then none else
    if (((v3 + (-1 : Int32)) + (1 : Int32)) < 0 ∨ 130 ≤ (((v3 + (-1 : Int32)) + (1 : Int32))).toNatClampNeg) then none else
    lp_fm_load_12 fl w T ((upd br ((((60 : Int32) * v1) + v4)).toNatClampNeg (tk ((jp ((v3 + (-1 : Int32))).toNatClampNeg)).toNatClampNeg)), bl) ((upd (upd jp ((v3 + (-1 : Int32))).toNatClampNeg (tb ((jp ((v3 + (-1 : Int32))).toNatClampNeg)).toNatClampNeg)) (((v3 + (-1 : Int32)) + (1 : Int32))).toNatClampNeg (ta ((jp ((v3 + (-1 : Int32))).toNatClampNeg)).toNatClampNeg)), ji) v1 v2 ((v3 + (-1 : Int32)) + (2 : Int32)) (v4 + (1 : Int32)))
    else
    lp_fm_load_12 fl w T ((upd br ((((60 : Int32) * v1) + v4)).toNatClampNeg (tk ((jp ((v3 + (-1 : Int32))).toNatClampNeg)).toNatClampNeg)), bl) J v1 v2 (v3 + (-1 : Int32)) (v4 + (1 : Int32)))
    else
    if (1 : Int32) = 0 then
    (match B with
    | (br, bl) =>
    if ((jp ((v3 + (-1 : Int32))).toNatClampNeg) < 0 ∨ 120 ≤ ((jp ((v3 + (-1 : Int32))).toNatClampNeg)).toNatClampNeg) then none else
    if ((jp ((v3 + (-1 : Int32))).toNatClampNeg) < 0 ∨ 120 ≤ ((jp ((v3 + (-1 : Int32))).toNatClampNeg)).toNatClampNeg) then none else
    if ((((60 : Int32) * v1) + v4) < 0 ∨ 5760 ≤ ((((60 : Int32) * v1) + v4)).toNatClampNeg) then none else
    if (1 : Int32) ≠ 0 then
    (if ((jp ((v3 + (-1 : Int32))).toNatClampNeg) < 0 ∨ 120 ≤ ((jp ((v3 + (-1 : Int32))).toNatClampNeg)).toNatClampNeg) then none else
    if ((v3 + (-1 : Int32)) < 0 ∨ 130 ≤ ((v3 + (-1 : Int32))).toNatClampNeg) then none else
    if ((jp ((v3 + (-1 : Int32))).toNatClampNeg) < 0 ∨ 120 ≤ ((jp ((v3 + (-1 : Int32))).toNatClampNeg)).toNatClampNeg) then none else
    if (((v3 + (-1 : Int32)) + (1 : Int32)) < 0 ∨ 130 ≤ (((v3 + (-1 : Int32)) + (1 : Int32))).toNatClampNeg) then none else
    lp_fm_load_12 fl w T ((upd br ((((60 : Int32) * v1) + v4)).toNatClampNeg ((tk ((jp ((v3 + (-1 : Int32))).toNatClampNeg)).toNatClampNeg) + ((10 : Int32) * (ta ((jp ((v3 + (-1 : Int32))).toNatClampNeg)).toNatClampNeg)))), bl) ((upd (upd jp ((v3 + (-1 : Int32))).toNatClampNeg (tb ((jp ((v3 + (-1 : Int32))).toNatClampNeg)).toNatClampNeg)) (((v3 + (-1 : Int32)) + (1 : Int32))).toNatClampNeg (ta ((jp ((v3 + (-1 : Int32))).toNatClampNeg)).toNatClampNeg)), ji) v1 v2 ((v3 + (-1 : Int32)) + (2 : Int32)) (v4 + (1 : Int32)))
    else
    lp_fm_load_12 fl w T ((upd br ((((60 : Int32) * v1) + v4)).toNatClampNeg ((tk ((jp ((v3 + (-1 : Int32))).toNatClampNeg)).toNatClampNeg) + ((10 : Int32) * (ta ((jp ((v3 + (-1 : Int32))).toNatClampNeg)).toNatClampNeg)))), bl) J v1 v2 (v3 + (-1 : Int32)) (v4 + (1 : Int32)))
    else
    match B with
    | (br, bl) =>
    if ((jp ((v3 + (-1 : Int32))).toNatClampNeg) < 0 ∨ 120 ≤ ((jp ((v3 + (-1 : Int32))).toNatClampNeg)).toNatClampNeg) then none else
    if ((((60 : Int32) * v1) + v4) < 0 ∨ 5760 ≤ ((((60 : Int32) * v1) + v4)).toNatClampNeg) then none else
    if (1 : Int32) ≠ 0 then
    (if ((jp ((v3 + (-1 : Int32))).toNatClampNeg) < 0 ∨ 120 ≤ ((jp ((v3 + (-1 : Int32))).toNatClampNeg)).toNatClampNeg) then none else
    if ((v3 + (-1 : Int32)) < 0 ∨ 130 ≤ ((v3 + (-1 : Int32))).toNatClampNeg) then none else
    if ((jp ((v3 + (-1 : Int32))).toNatClampNeg) < 0 ∨ 120 ≤ ((jp ((v3 + (-1 : Int32))).toNatClampNeg)).toNatClampNeg) then none else
    if (((v3 + (-1 : Int32)) + (1 : Int32)) < 0 ∨ 130 ≤ (((v3 + (-1 : Int32)) + (1 : Int32))).toNatClampNeg) then none else
    lp_fm_load_12 fl w T ((upd br ((((60 : Int32) * v1) + v4)).toNatClampNeg (tk ((jp ((v3 + (-1 : Int32))).toNatClampNeg)).toNatClampNeg)), bl) ((upd (upd jp ((v3 + (-1 : Int32))).toNatClampNeg (tb ((jp ((v3 + (-1 : Int32))).toNatClampNeg)).toNatClampNeg)) (((v3 + (-1 : Int32)) + (1 : Int32))).toNatClampNeg (ta ((jp ((v3 + (-1 : Int32))).toNatClampNeg)).toNatClampNeg)), ji) v1 v2 ((v3 + (-1 : Int32)) + (2 : Int32)) (v4 + (1 : Int32)))
    else
    lp_fm_load_12 fl w T ((upd br ((((60 : Int32) * v1) + v4)).toNatClampNeg (tk ((jp ((v3 + (-1 : Int32))).toNatClampNeg)).toNatClampNeg)), bl) J v1 v2 (v3 + (-1 : Int32)) (v4 + (1 : Int32))
def fm_load (fl : Nat) (T : cT) (B : cB) (J : cJ) (p1 p2 : Int32) : Option (cB × cJ) :=
  match J with
  | (jp, ji) =>
  if ((0 : Int32) < 0 ∨ 130 ≤ ((0 : Int32)).toNatClampNeg) then none else
  lp_fm_load_12 fl fl T B ((upd jp ((0 : Int32)).toNatClampNeg p2), ji) p1 p2 (1 : Int32) (0 : Int32)
set_option maxHeartbeats 4000000 in
set_option maxRecDepth 100000 in
theorem ok_lp_fm_load_12 {fl : Nat} : ∀ {w : Nat} {N : cN} {C : cC} {E : cE} {F : cF} {P : cP} {Q : cQ} {T : cT} {G : cG} {U : cU} {H : cH} {B : cB} {O : cO} {J : cJ} {V : cV} {Y : cY} {Z : cZ} {O9 : cO9} {k n : Nat} {v1 : Int32} {v2 : Int32} {v3 : Int32} {v4 : Int32} {B' : cB} {J' : cJ} (h : lp_fm_load_12 fl w T B J v1 v2 v3 v4 = some (B', J')) (D : Nat) (hD : 0 ≤ D), am_Ev D 109 0 (fun _ => 0) (12, [(0, .ref 19), (1, .int v1), (2, .int v2), (3, .int v3), (4, .int v4)], [], (W9 N C E F P Q T G U H B O J V Y Z O9), k, n) (.inl none, W9 N C E F P Q T G U H B' O J' V Y Z O9, k, n) := by
  intro w
  induction w with
  | zero => intros; rename_i h _ _; cases h
  | succ w ih0 =>
    intro N C E F P Q T G U H B O J V Y Z O9 k n v1 v2 v3 v4 B' J' h D hD
    have ih := fun {N} {C} {E} {F} {P} {Q} {T} {G} {U} {H} {B} {O} {J} {V} {Y} {Z} {O9} {k} {n} {v1} {v2} {v3} {v4} {B'} {J'} h => @ih0 N C E F P Q T G U H B O J V Y Z O9 k n v1 v2 v3 v4 B' J' h D hD
    unfold lp_fm_load_12 at h
    refine am_ev_st 2 (f' := am_br (v3 ≤ 0) 146 13 [(0, .ref 19), (1, .int v1), (2, .int v2), (3, .int v3), (4, .int v4)] [] (W9 N C E F P Q T G U H B O J V Y Z O9) k n) (g := True ∧ True ∧ True) (by with_unfolding_all rfl) ⟨trivial, trivial, trivial⟩ ?_
    by_cases c2 : v3 ≤ 0
    · rw [if_pos c2] at h
      refine am_ev_pos c2 ?_
      obtain ⟨br, bl⟩ := B
      try dsimp only at h
      by_cases g3 : (v1 < 0 ∨ 96 ≤ (v1).toNatClampNeg)
      · rw [if_pos g3] at h; cases h
      rw [if_neg g3] at h
      refine am_ev_st 5 (f' := (154, [(0, .ref 19), (1, .int v1), (2, .int v2), (3, .int v3), (4, .int v4)], [], (W9 N C E F P Q T G U H (br, (upd bl (v1).toNatClampNeg v4)) O J V Y Z O9), k, n)) (g := True ∧ True ∧ True ∧ True ∧ vp_in (v1) 96 ∧ True) (by with_unfolding_all rfl) ⟨trivial, trivial, trivial, trivial, g3, trivial⟩ ?_
      cases h
      exact am_ev_vret 0 0 0 rfl rfl rfl
    · rw [if_neg c2] at h
      refine am_ev_neg c2 ?_
      obtain ⟨jp, ji⟩ := J
      try dsimp only at h
      obtain ⟨te, tk, ta, tb, tn, td⟩ := T
      try dsimp only at h
      by_cases g4 : ((v3 + (-1 : Int32)) < 0 ∨ 130 ≤ ((v3 + (-1 : Int32))).toNatClampNeg)
      · rw [if_pos g4] at h; cases h
      rw [if_neg g4] at h
      by_cases g5 : ((jp ((v3 + (-1 : Int32))).toNatClampNeg) < 0 ∨ 120 ≤ ((jp ((v3 + (-1 : Int32))).toNatClampNeg)).toNatClampNeg)
      · rw [if_pos g5] at h; cases h
      rw [if_neg g5] at h
      refine am_ev_st 12 (f' := am_br ((tk ((jp ((v3 + (-1 : Int32))).toNatClampNeg)).toNatClampNeg) < (2 : Int32)) 53 35 [(5, .int (jp ((v3 + (-1 : Int32))).toNatClampNeg)), (3, .int (v3 + (-1 : Int32))), (0, .ref 19), (1, .int v1), (2, .int v2), (4, .int v4)] [] (W9 N C E F P Q (te, tk, ta, tb, tn, td) G U H B O (jp, ji) V Y Z O9) k n) (g := True ∧ True ∧ True ∧ True ∧ vp_in ((v3 + (-1 : Int32))) 130 ∧ True ∧ True ∧ True ∧ True ∧ vp_in ((jp ((v3 + (-1 : Int32))).toNatClampNeg)) 120 ∧ True ∧ True ∧ True) (by with_unfolding_all rfl) ⟨trivial, trivial, trivial, trivial, g4, trivial, trivial, trivial, trivial, g5, trivial, trivial, trivial⟩ ?_
      by_cases c6 : (tk ((jp ((v3 + (-1 : Int32))).toNatClampNeg)).toNatClampNeg) < (2 : Int32)
      · rw [if_pos c6] at h
        refine am_ev_pos c6 ?_
        refine am_ev_st 11 (f' := am_br ((0 : Int32) = 0) 82 69 [(6, .int (0 : Int32)), (5, .int (jp ((v3 + (-1 : Int32))).toNatClampNeg)), (3, .int (v3 + (-1 : Int32))), (0, .ref 19), (1, .int v1), (2, .int v2), (4, .int v4)] [.int (((60 : Int32) * v1) + v4), .ref 26] (W9 N C E F P Q (te, tk, ta, tb, tn, td) G U H B O (jp, ji) V Y Z O9) k n) (g := True ∧ True ∧ True ∧ True ∧ True ∧ True ∧ True ∧ True ∧ True ∧ True ∧ True ∧ True) (by with_unfolding_all rfl) ⟨trivial, trivial, trivial, trivial, trivial, trivial, trivial, trivial, trivial, trivial, trivial, trivial⟩ ?_
        by_cases c7 : (0 : Int32) = 0
        · rw [if_pos c7] at h
          refine am_ev_pos c7 ?_
          obtain ⟨br, bl⟩ := B
          try dsimp only at h
          by_cases g8 : ((jp ((v3 + (-1 : Int32))).toNatClampNeg) < 0 ∨ 120 ≤ ((jp ((v3 + (-1 : Int32))).toNatClampNeg)).toNatClampNeg)
          · rw [if_pos g8] at h; cases h
          rw [if_neg g8] at h
          by_cases g9 : ((jp ((v3 + (-1 : Int32))).toNatClampNeg) < 0 ∨ 120 ≤ ((jp ((v3 + (-1 : Int32))).toNatClampNeg)).toNatClampNeg)
          · rw [if_pos g9] at h; cases h
          rw [if_neg g9] at h
          by_cases g10 : ((((60 : Int32) * v1) + v4) < 0 ∨ 5760 ≤ ((((60 : Int32) * v1) + v4)).toNatClampNeg)
          · rw [if_pos g10] at h; cases h
          rw [if_neg g10] at h
          refine am_ev_st 15 (f' := am_br ((0 : Int32) ≠ 0) 112 106 [(4, .int (v4 + (1 : Int32))), (6, .int (0 : Int32)), (5, .int (jp ((v3 + (-1 : Int32))).toNatClampNeg)), (3, .int (v3 + (-1 : Int32))), (0, .ref 19), (1, .int v1), (2, .int v2)] [] (W9 N C E F P Q (te, tk, ta, tb, tn, td) G U H ((upd br ((((60 : Int32) * v1) + v4)).toNatClampNeg ((tk ((jp ((v3 + (-1 : Int32))).toNatClampNeg)).toNatClampNeg) + ((10 : Int32) * (ta ((jp ((v3 + (-1 : Int32))).toNatClampNeg)).toNatClampNeg)))), bl) O (jp, ji) V Y Z O9) k n) (g := True ∧ True ∧ True ∧ vp_in ((jp ((v3 + (-1 : Int32))).toNatClampNeg)) 120 ∧ True ∧ True ∧ True ∧ True ∧ vp_in ((jp ((v3 + (-1 : Int32))).toNatClampNeg)) 120 ∧ True ∧ True ∧ vp_in ((((60 : Int32) * v1) + v4)) 5760 ∧ True ∧ True ∧ True ∧ True) (by with_unfolding_all rfl) ⟨trivial, trivial, trivial, g8, trivial, trivial, trivial, trivial, g9, trivial, trivial, g10, trivial, trivial, trivial, trivial⟩ ?_
          by_cases c11 : (0 : Int32) ≠ 0
          · rw [if_pos c11] at h
            refine am_ev_pos c11 ?_
            by_cases g12 : ((jp ((v3 + (-1 : Int32))).toNatClampNeg) < 0 ∨ 120 ≤ ((jp ((v3 + (-1 : Int32))).toNatClampNeg)).toNatClampNeg)
            · rw [if_pos g12] at h; cases h
            rw [if_neg g12] at h
            by_cases g13 : ((v3 + (-1 : Int32)) < 0 ∨ 130 ≤ ((v3 + (-1 : Int32))).toNatClampNeg)
            · rw [if_pos g13] at h; cases h
            rw [if_neg g13] at h
            by_cases g14 : ((jp ((v3 + (-1 : Int32))).toNatClampNeg) < 0 ∨ 120 ≤ ((jp ((v3 + (-1 : Int32))).toNatClampNeg)).toNatClampNeg)
            · rw [if_pos g14] at h; cases h
            rw [if_neg g14] at h
            by_cases g15 : (((v3 + (-1 : Int32)) + (1 : Int32)) < 0 ∨ 130 ≤ (((v3 + (-1 : Int32)) + (1 : Int32))).toNatClampNeg)
            · rw [if_pos g15] at h; cases h
            rw [if_neg g15] at h
            refine am_ev_st 20 (f' := (12, [(3, .int ((v3 + (-1 : Int32)) + (2 : Int32))), (4, .int (v4 + (1 : Int32))), (6, .int (0 : Int32)), (5, .int (jp ((v3 + (-1 : Int32))).toNatClampNeg)), (0, .ref 19), (1, .int v1), (2, .int v2)], [], (W9 N C E F P Q (te, tk, ta, tb, tn, td) G U H ((upd br ((((60 : Int32) * v1) + v4)).toNatClampNeg ((tk ((jp ((v3 + (-1 : Int32))).toNatClampNeg)).toNatClampNeg) + ((10 : Int32) * (ta ((jp ((v3 + (-1 : Int32))).toNatClampNeg)).toNatClampNeg)))), bl) O ((upd (upd jp ((v3 + (-1 : Int32))).toNatClampNeg (tb ((jp ((v3 + (-1 : Int32))).toNatClampNeg)).toNatClampNeg)) (((v3 + (-1 : Int32)) + (1 : Int32))).toNatClampNeg (ta ((jp ((v3 + (-1 : Int32))).toNatClampNeg)).toNatClampNeg)), ji) V Y Z O9), k, n)) (g := True ∧ True ∧ True ∧ True ∧ True ∧ True ∧ vp_in ((jp ((v3 + (-1 : Int32))).toNatClampNeg)) 120 ∧ vp_in ((v3 + (-1 : Int32))) 130 ∧ True ∧ True ∧ True ∧ True ∧ True ∧ True ∧ True ∧ True ∧ vp_in ((jp ((v3 + (-1 : Int32))).toNatClampNeg)) 120 ∧ vp_in (((v3 + (-1 : Int32)) + (1 : Int32))) 130 ∧ True ∧ True ∧ True) (by with_unfolding_all rfl) ⟨trivial, trivial, trivial, trivial, trivial, trivial, g12, g13, trivial, trivial, trivial, trivial, trivial, trivial, trivial, trivial, g14, g15, trivial, trivial, trivial⟩ ?_
            refine am_ev_drop [4, 5, 6, 0, 1] rfl rfl ?_
            exact ih h
          · rw [if_neg c11] at h
            refine am_ev_neg c11 ?_
            refine am_ev_st 1 (f' := (12, [(4, .int (v4 + (1 : Int32))), (6, .int (0 : Int32)), (5, .int (jp ((v3 + (-1 : Int32))).toNatClampNeg)), (3, .int (v3 + (-1 : Int32))), (0, .ref 19), (1, .int v1), (2, .int v2)], [], (W9 N C E F P Q (te, tk, ta, tb, tn, td) G U H ((upd br ((((60 : Int32) * v1) + v4)).toNatClampNeg ((tk ((jp ((v3 + (-1 : Int32))).toNatClampNeg)).toNatClampNeg) + ((10 : Int32) * (ta ((jp ((v3 + (-1 : Int32))).toNatClampNeg)).toNatClampNeg)))), bl) O (jp, ji) V Y Z O9), k, n)) (g := True ∧ True) (by with_unfolding_all rfl) ⟨trivial, trivial⟩ ?_
            refine am_ev_drop [4, 5, 6, 3, 0] rfl rfl ?_
            exact ih h
        · rw [if_neg c7] at h
          refine am_ev_neg c7 ?_
          obtain ⟨br, bl⟩ := B
          try dsimp only at h
          by_cases g16 : ((jp ((v3 + (-1 : Int32))).toNatClampNeg) < 0 ∨ 120 ≤ ((jp ((v3 + (-1 : Int32))).toNatClampNeg)).toNatClampNeg)
          · rw [if_pos g16] at h; cases h
          rw [if_neg g16] at h
          by_cases g17 : ((((60 : Int32) * v1) + v4) < 0 ∨ 5760 ≤ ((((60 : Int32) * v1) + v4)).toNatClampNeg)
          · rw [if_pos g17] at h; cases h
          rw [if_neg g17] at h
          refine am_ev_st 9 (f' := am_br ((0 : Int32) ≠ 0) 112 106 [(4, .int (v4 + (1 : Int32))), (6, .int (0 : Int32)), (5, .int (jp ((v3 + (-1 : Int32))).toNatClampNeg)), (3, .int (v3 + (-1 : Int32))), (0, .ref 19), (1, .int v1), (2, .int v2)] [] (W9 N C E F P Q (te, tk, ta, tb, tn, td) G U H ((upd br ((((60 : Int32) * v1) + v4)).toNatClampNeg (tk ((jp ((v3 + (-1 : Int32))).toNatClampNeg)).toNatClampNeg)), bl) O (jp, ji) V Y Z O9) k n) (g := True ∧ True ∧ True ∧ vp_in ((jp ((v3 + (-1 : Int32))).toNatClampNeg)) 120 ∧ True ∧ vp_in ((((60 : Int32) * v1) + v4)) 5760 ∧ True ∧ True ∧ True ∧ True) (by with_unfolding_all rfl) ⟨trivial, trivial, trivial, g16, trivial, g17, trivial, trivial, trivial, trivial⟩ ?_
          by_cases c18 : (0 : Int32) ≠ 0
          · rw [if_pos c18] at h
            refine am_ev_pos c18 ?_
            by_cases g19 : ((jp ((v3 + (-1 : Int32))).toNatClampNeg) < 0 ∨ 120 ≤ ((jp ((v3 + (-1 : Int32))).toNatClampNeg)).toNatClampNeg)
            · rw [if_pos g19] at h; cases h
            rw [if_neg g19] at h
            by_cases g20 : ((v3 + (-1 : Int32)) < 0 ∨ 130 ≤ ((v3 + (-1 : Int32))).toNatClampNeg)
            · rw [if_pos g20] at h; cases h
            rw [if_neg g20] at h
            by_cases g21 : ((jp ((v3 + (-1 : Int32))).toNatClampNeg) < 0 ∨ 120 ≤ ((jp ((v3 + (-1 : Int32))).toNatClampNeg)).toNatClampNeg)
            · rw [if_pos g21] at h; cases h
            rw [if_neg g21] at h
            by_cases g22 : (((v3 + (-1 : Int32)) + (1 : Int32)) < 0 ∨ 130 ≤ (((v3 + (-1 : Int32)) + (1 : Int32))).toNatClampNeg)
            · rw [if_pos g22] at h; cases h
            rw [if_neg g22] at h
            refine am_ev_st 20 (f' := (12, [(3, .int ((v3 + (-1 : Int32)) + (2 : Int32))), (4, .int (v4 + (1 : Int32))), (6, .int (0 : Int32)), (5, .int (jp ((v3 + (-1 : Int32))).toNatClampNeg)), (0, .ref 19), (1, .int v1), (2, .int v2)], [], (W9 N C E F P Q (te, tk, ta, tb, tn, td) G U H ((upd br ((((60 : Int32) * v1) + v4)).toNatClampNeg (tk ((jp ((v3 + (-1 : Int32))).toNatClampNeg)).toNatClampNeg)), bl) O ((upd (upd jp ((v3 + (-1 : Int32))).toNatClampNeg (tb ((jp ((v3 + (-1 : Int32))).toNatClampNeg)).toNatClampNeg)) (((v3 + (-1 : Int32)) + (1 : Int32))).toNatClampNeg (ta ((jp ((v3 + (-1 : Int32))).toNatClampNeg)).toNatClampNeg)), ji) V Y Z O9), k, n)) (g := True ∧ True ∧ True ∧ True ∧ True ∧ True ∧ vp_in ((jp ((v3 + (-1 : Int32))).toNatClampNeg)) 120 ∧ vp_in ((v3 + (-1 : Int32))) 130 ∧ True ∧ True ∧ True ∧ True ∧ True ∧ True ∧ True ∧ True ∧ vp_in ((jp ((v3 + (-1 : Int32))).toNatClampNeg)) 120 ∧ vp_in (((v3 + (-1 : Int32)) + (1 : Int32))) 130 ∧ True ∧ True ∧ True) (by with_unfolding_all rfl) ⟨trivial, trivial, trivial, trivial, trivial, trivial, g19, g20, trivial, trivial, trivial, trivial, trivial, trivial, trivial, trivial, g21, g22, trivial, trivial, trivial⟩ ?_
            refine am_ev_drop [4, 5, 6, 0, 1] rfl rfl ?_
            exact ih h
          · rw [if_neg c18] at h
            refine am_ev_neg c18 ?_
            refine am_ev_st 1 (f' := (12, [(4, .int (v4 + (1 : Int32))), (6, .int (0 : Int32)), (5, .int (jp ((v3 + (-1 : Int32))).toNatClampNeg)), (3, .int (v3 + (-1 : Int32))), (0, .ref 19), (1, .int v1), (2, .int v2)], [], (W9 N C E F P Q (te, tk, ta, tb, tn, td) G U H ((upd br ((((60 : Int32) * v1) + v4)).toNatClampNeg (tk ((jp ((v3 + (-1 : Int32))).toNatClampNeg)).toNatClampNeg)), bl) O (jp, ji) V Y Z O9), k, n)) (g := True ∧ True) (by with_unfolding_all rfl) ⟨trivial, trivial⟩ ?_
            refine am_ev_drop [4, 5, 6, 3, 0] rfl rfl ?_
            exact ih h
      · rw [if_neg c6] at h
        refine am_ev_neg c6 ?_
        by_cases g23 : ((jp ((v3 + (-1 : Int32))).toNatClampNeg) < 0 ∨ 120 ≤ ((jp ((v3 + (-1 : Int32))).toNatClampNeg)).toNatClampNeg)
        · rw [if_pos g23] at h; cases h
        rw [if_neg g23] at h
        refine am_ev_st 6 (f' := am_br ((4 : Int32) < (tk ((jp ((v3 + (-1 : Int32))).toNatClampNeg)).toNatClampNeg)) 53 46 [(5, .int (jp ((v3 + (-1 : Int32))).toNatClampNeg)), (3, .int (v3 + (-1 : Int32))), (0, .ref 19), (1, .int v1), (2, .int v2), (4, .int v4)] [] (W9 N C E F P Q (te, tk, ta, tb, tn, td) G U H B O (jp, ji) V Y Z O9) k n) (g := True ∧ True ∧ True ∧ vp_in ((jp ((v3 + (-1 : Int32))).toNatClampNeg)) 120 ∧ True ∧ True ∧ True) (by with_unfolding_all rfl) ⟨trivial, trivial, trivial, g23, trivial, trivial, trivial⟩ ?_
        by_cases c24 : (4 : Int32) < (tk ((jp ((v3 + (-1 : Int32))).toNatClampNeg)).toNatClampNeg)
        · rw [if_pos c24] at h
          refine am_ev_pos c24 ?_
          refine am_ev_st 11 (f' := am_br ((0 : Int32) = 0) 82 69 [(6, .int (0 : Int32)), (5, .int (jp ((v3 + (-1 : Int32))).toNatClampNeg)), (3, .int (v3 + (-1 : Int32))), (0, .ref 19), (1, .int v1), (2, .int v2), (4, .int v4)] [.int (((60 : Int32) * v1) + v4), .ref 26] (W9 N C E F P Q (te, tk, ta, tb, tn, td) G U H B O (jp, ji) V Y Z O9) k n) (g := True ∧ True ∧ True ∧ True ∧ True ∧ True ∧ True ∧ True ∧ True ∧ True ∧ True ∧ True) (by with_unfolding_all rfl) ⟨trivial, trivial, trivial, trivial, trivial, trivial, trivial, trivial, trivial, trivial, trivial, trivial⟩ ?_
          by_cases c25 : (0 : Int32) = 0
          · rw [if_pos c25] at h
            refine am_ev_pos c25 ?_
            obtain ⟨br, bl⟩ := B
            try dsimp only at h
            by_cases g26 : ((jp ((v3 + (-1 : Int32))).toNatClampNeg) < 0 ∨ 120 ≤ ((jp ((v3 + (-1 : Int32))).toNatClampNeg)).toNatClampNeg)
            · rw [if_pos g26] at h; cases h
            rw [if_neg g26] at h
            by_cases g27 : ((jp ((v3 + (-1 : Int32))).toNatClampNeg) < 0 ∨ 120 ≤ ((jp ((v3 + (-1 : Int32))).toNatClampNeg)).toNatClampNeg)
            · rw [if_pos g27] at h; cases h
            rw [if_neg g27] at h
            by_cases g28 : ((((60 : Int32) * v1) + v4) < 0 ∨ 5760 ≤ ((((60 : Int32) * v1) + v4)).toNatClampNeg)
            · rw [if_pos g28] at h; cases h
            rw [if_neg g28] at h
            refine am_ev_st 15 (f' := am_br ((0 : Int32) ≠ 0) 112 106 [(4, .int (v4 + (1 : Int32))), (6, .int (0 : Int32)), (5, .int (jp ((v3 + (-1 : Int32))).toNatClampNeg)), (3, .int (v3 + (-1 : Int32))), (0, .ref 19), (1, .int v1), (2, .int v2)] [] (W9 N C E F P Q (te, tk, ta, tb, tn, td) G U H ((upd br ((((60 : Int32) * v1) + v4)).toNatClampNeg ((tk ((jp ((v3 + (-1 : Int32))).toNatClampNeg)).toNatClampNeg) + ((10 : Int32) * (ta ((jp ((v3 + (-1 : Int32))).toNatClampNeg)).toNatClampNeg)))), bl) O (jp, ji) V Y Z O9) k n) (g := True ∧ True ∧ True ∧ vp_in ((jp ((v3 + (-1 : Int32))).toNatClampNeg)) 120 ∧ True ∧ True ∧ True ∧ True ∧ vp_in ((jp ((v3 + (-1 : Int32))).toNatClampNeg)) 120 ∧ True ∧ True ∧ vp_in ((((60 : Int32) * v1) + v4)) 5760 ∧ True ∧ True ∧ True ∧ True) (by with_unfolding_all rfl) ⟨trivial, trivial, trivial, g26, trivial, trivial, trivial, trivial, g27, trivial, trivial, g28, trivial, trivial, trivial, trivial⟩ ?_
            by_cases c29 : (0 : Int32) ≠ 0
            · rw [if_pos c29] at h
              refine am_ev_pos c29 ?_
              by_cases g30 : ((jp ((v3 + (-1 : Int32))).toNatClampNeg) < 0 ∨ 120 ≤ ((jp ((v3 + (-1 : Int32))).toNatClampNeg)).toNatClampNeg)
              · rw [if_pos g30] at h; cases h
              rw [if_neg g30] at h
              by_cases g31 : ((v3 + (-1 : Int32)) < 0 ∨ 130 ≤ ((v3 + (-1 : Int32))).toNatClampNeg)
              · rw [if_pos g31] at h; cases h
              rw [if_neg g31] at h
              by_cases g32 : ((jp ((v3 + (-1 : Int32))).toNatClampNeg) < 0 ∨ 120 ≤ ((jp ((v3 + (-1 : Int32))).toNatClampNeg)).toNatClampNeg)
              · rw [if_pos g32] at h; cases h
              rw [if_neg g32] at h
              by_cases g33 : (((v3 + (-1 : Int32)) + (1 : Int32)) < 0 ∨ 130 ≤ (((v3 + (-1 : Int32)) + (1 : Int32))).toNatClampNeg)
              · rw [if_pos g33] at h; cases h
              rw [if_neg g33] at h
              refine am_ev_st 20 (f' := (12, [(3, .int ((v3 + (-1 : Int32)) + (2 : Int32))), (4, .int (v4 + (1 : Int32))), (6, .int (0 : Int32)), (5, .int (jp ((v3 + (-1 : Int32))).toNatClampNeg)), (0, .ref 19), (1, .int v1), (2, .int v2)], [], (W9 N C E F P Q (te, tk, ta, tb, tn, td) G U H ((upd br ((((60 : Int32) * v1) + v4)).toNatClampNeg ((tk ((jp ((v3 + (-1 : Int32))).toNatClampNeg)).toNatClampNeg) + ((10 : Int32) * (ta ((jp ((v3 + (-1 : Int32))).toNatClampNeg)).toNatClampNeg)))), bl) O ((upd (upd jp ((v3 + (-1 : Int32))).toNatClampNeg (tb ((jp ((v3 + (-1 : Int32))).toNatClampNeg)).toNatClampNeg)) (((v3 + (-1 : Int32)) + (1 : Int32))).toNatClampNeg (ta ((jp ((v3 + (-1 : Int32))).toNatClampNeg)).toNatClampNeg)), ji) V Y Z O9), k, n)) (g := True ∧ True ∧ True ∧ True ∧ True ∧ True ∧ vp_in ((jp ((v3 + (-1 : Int32))).toNatClampNeg)) 120 ∧ vp_in ((v3 + (-1 : Int32))) 130 ∧ True ∧ True ∧ True ∧ True ∧ True ∧ True ∧ True ∧ True ∧ vp_in ((jp ((v3 + (-1 : Int32))).toNatClampNeg)) 120 ∧ vp_in (((v3 + (-1 : Int32)) + (1 : Int32))) 130 ∧ True ∧ True ∧ True) (by with_unfolding_all rfl) ⟨trivial, trivial, trivial, trivial, trivial, trivial, g30, g31, trivial, trivial, trivial, trivial, trivial, trivial, trivial, trivial, g32, g33, trivial, trivial, trivial⟩ ?_
              refine am_ev_drop [4, 5, 6, 0, 1] rfl rfl ?_
              exact ih h
            · rw [if_neg c29] at h
              refine am_ev_neg c29 ?_
              refine am_ev_st 1 (f' := (12, [(4, .int (v4 + (1 : Int32))), (6, .int (0 : Int32)), (5, .int (jp ((v3 + (-1 : Int32))).toNatClampNeg)), (3, .int (v3 + (-1 : Int32))), (0, .ref 19), (1, .int v1), (2, .int v2)], [], (W9 N C E F P Q (te, tk, ta, tb, tn, td) G U H ((upd br ((((60 : Int32) * v1) + v4)).toNatClampNeg ((tk ((jp ((v3 + (-1 : Int32))).toNatClampNeg)).toNatClampNeg) + ((10 : Int32) * (ta ((jp ((v3 + (-1 : Int32))).toNatClampNeg)).toNatClampNeg)))), bl) O (jp, ji) V Y Z O9), k, n)) (g := True ∧ True) (by with_unfolding_all rfl) ⟨trivial, trivial⟩ ?_
              refine am_ev_drop [4, 5, 6, 3, 0] rfl rfl ?_
              exact ih h
          · rw [if_neg c25] at h
            refine am_ev_neg c25 ?_
            obtain ⟨br, bl⟩ := B
            try dsimp only at h
            by_cases g34 : ((jp ((v3 + (-1 : Int32))).toNatClampNeg) < 0 ∨ 120 ≤ ((jp ((v3 + (-1 : Int32))).toNatClampNeg)).toNatClampNeg)
            · rw [if_pos g34] at h; cases h
            rw [if_neg g34] at h
            by_cases g35 : ((((60 : Int32) * v1) + v4) < 0 ∨ 5760 ≤ ((((60 : Int32) * v1) + v4)).toNatClampNeg)
            · rw [if_pos g35] at h; cases h
            rw [if_neg g35] at h
            refine am_ev_st 9 (f' := am_br ((0 : Int32) ≠ 0) 112 106 [(4, .int (v4 + (1 : Int32))), (6, .int (0 : Int32)), (5, .int (jp ((v3 + (-1 : Int32))).toNatClampNeg)), (3, .int (v3 + (-1 : Int32))), (0, .ref 19), (1, .int v1), (2, .int v2)] [] (W9 N C E F P Q (te, tk, ta, tb, tn, td) G U H ((upd br ((((60 : Int32) * v1) + v4)).toNatClampNeg (tk ((jp ((v3 + (-1 : Int32))).toNatClampNeg)).toNatClampNeg)), bl) O (jp, ji) V Y Z O9) k n) (g := True ∧ True ∧ True ∧ vp_in ((jp ((v3 + (-1 : Int32))).toNatClampNeg)) 120 ∧ True ∧ vp_in ((((60 : Int32) * v1) + v4)) 5760 ∧ True ∧ True ∧ True ∧ True) (by with_unfolding_all rfl) ⟨trivial, trivial, trivial, g34, trivial, g35, trivial, trivial, trivial, trivial⟩ ?_
            by_cases c36 : (0 : Int32) ≠ 0
            · rw [if_pos c36] at h
              refine am_ev_pos c36 ?_
              by_cases g37 : ((jp ((v3 + (-1 : Int32))).toNatClampNeg) < 0 ∨ 120 ≤ ((jp ((v3 + (-1 : Int32))).toNatClampNeg)).toNatClampNeg)
              · rw [if_pos g37] at h; cases h
              rw [if_neg g37] at h
              by_cases g38 : ((v3 + (-1 : Int32)) < 0 ∨ 130 ≤ ((v3 + (-1 : Int32))).toNatClampNeg)
              · rw [if_pos g38] at h; cases h
              rw [if_neg g38] at h
              by_cases g39 : ((jp ((v3 + (-1 : Int32))).toNatClampNeg) < 0 ∨ 120 ≤ ((jp ((v3 + (-1 : Int32))).toNatClampNeg)).toNatClampNeg)
              · rw [if_pos g39] at h; cases h
              rw [if_neg g39] at h
              by_cases g40 : (((v3 + (-1 : Int32)) + (1 : Int32)) < 0 ∨ 130 ≤ (((v3 + (-1 : Int32)) + (1 : Int32))).toNatClampNeg)
              · rw [if_pos g40] at h; cases h
              rw [if_neg g40] at h
              refine am_ev_st 20 (f' := (12, [(3, .int ((v3 + (-1 : Int32)) + (2 : Int32))), (4, .int (v4 + (1 : Int32))), (6, .int (0 : Int32)), (5, .int (jp ((v3 + (-1 : Int32))).toNatClampNeg)), (0, .ref 19), (1, .int v1), (2, .int v2)], [], (W9 N C E F P Q (te, tk, ta, tb, tn, td) G U H ((upd br ((((60 : Int32) * v1) + v4)).toNatClampNeg (tk ((jp ((v3 + (-1 : Int32))).toNatClampNeg)).toNatClampNeg)), bl) O ((upd (upd jp ((v3 + (-1 : Int32))).toNatClampNeg (tb ((jp ((v3 + (-1 : Int32))).toNatClampNeg)).toNatClampNeg)) (((v3 + (-1 : Int32)) + (1 : Int32))).toNatClampNeg (ta ((jp ((v3 + (-1 : Int32))).toNatClampNeg)).toNatClampNeg)), ji) V Y Z O9), k, n)) (g := True ∧ True ∧ True ∧ True ∧ True ∧ True ∧ vp_in ((jp ((v3 + (-1 : Int32))).toNatClampNeg)) 120 ∧ vp_in ((v3 + (-1 : Int32))) 130 ∧ True ∧ True ∧ True ∧ True ∧ True ∧ True ∧ True ∧ True ∧ vp_in ((jp ((v3 + (-1 : Int32))).toNatClampNeg)) 120 ∧ vp_in (((v3 + (-1 : Int32)) + (1 : Int32))) 130 ∧ True ∧ True ∧ True) (by with_unfolding_all rfl) ⟨trivial, trivial, trivial, trivial, trivial, trivial, g37, g38, trivial, trivial, trivial, trivial, trivial, trivial, trivial, trivial, g39, g40, trivial, trivial, trivial⟩ ?_
              refine am_ev_drop [4, 5, 6, 0, 1] rfl rfl ?_
              exact ih h
            · rw [if_neg c36] at h
              refine am_ev_neg c36 ?_
              refine am_ev_st 1 (f' := (12, [(4, .int (v4 + (1 : Int32))), (6, .int (0 : Int32)), (5, .int (jp ((v3 + (-1 : Int32))).toNatClampNeg)), (3, .int (v3 + (-1 : Int32))), (0, .ref 19), (1, .int v1), (2, .int v2)], [], (W9 N C E F P Q (te, tk, ta, tb, tn, td) G U H ((upd br ((((60 : Int32) * v1) + v4)).toNatClampNeg (tk ((jp ((v3 + (-1 : Int32))).toNatClampNeg)).toNatClampNeg)), bl) O (jp, ji) V Y Z O9), k, n)) (g := True ∧ True) (by with_unfolding_all rfl) ⟨trivial, trivial⟩ ?_
              refine am_ev_drop [4, 5, 6, 3, 0] rfl rfl ?_
              exact ih h
        · rw [if_neg c24] at h
          refine am_ev_neg c24 ?_
          refine am_ev_st 12 (f' := am_br ((1 : Int32) = 0) 82 69 [(6, .int (1 : Int32)), (5, .int (jp ((v3 + (-1 : Int32))).toNatClampNeg)), (3, .int (v3 + (-1 : Int32))), (0, .ref 19), (1, .int v1), (2, .int v2), (4, .int v4)] [.int (((60 : Int32) * v1) + v4), .ref 26] (W9 N C E F P Q (te, tk, ta, tb, tn, td) G U H B O (jp, ji) V Y Z O9) k n) (g := True ∧ True ∧ True ∧ True ∧ True ∧ True ∧ True ∧ True ∧ True ∧ True ∧ True ∧ True ∧ True) (by with_unfolding_all rfl) ⟨trivial, trivial, trivial, trivial, trivial, trivial, trivial, trivial, trivial, trivial, trivial, trivial, trivial⟩ ?_
          by_cases c41 : (1 : Int32) = 0
          · rw [if_pos c41] at h
            refine am_ev_pos c41 ?_
            obtain ⟨br, bl⟩ := B
            try dsimp only at h
            by_cases g42 : ((jp ((v3 + (-1 : Int32))).toNatClampNeg) < 0 ∨ 120 ≤ ((jp ((v3 + (-1 : Int32))).toNatClampNeg)).toNatClampNeg)
            · rw [if_pos g42] at h; cases h
            rw [if_neg g42] at h
            by_cases g43 : ((jp ((v3 + (-1 : Int32))).toNatClampNeg) < 0 ∨ 120 ≤ ((jp ((v3 + (-1 : Int32))).toNatClampNeg)).toNatClampNeg)
            · rw [if_pos g43] at h; cases h
            rw [if_neg g43] at h
            by_cases g44 : ((((60 : Int32) * v1) + v4) < 0 ∨ 5760 ≤ ((((60 : Int32) * v1) + v4)).toNatClampNeg)
            · rw [if_pos g44] at h; cases h
            rw [if_neg g44] at h
            refine am_ev_st 15 (f' := am_br ((1 : Int32) ≠ 0) 112 106 [(4, .int (v4 + (1 : Int32))), (6, .int (1 : Int32)), (5, .int (jp ((v3 + (-1 : Int32))).toNatClampNeg)), (3, .int (v3 + (-1 : Int32))), (0, .ref 19), (1, .int v1), (2, .int v2)] [] (W9 N C E F P Q (te, tk, ta, tb, tn, td) G U H ((upd br ((((60 : Int32) * v1) + v4)).toNatClampNeg ((tk ((jp ((v3 + (-1 : Int32))).toNatClampNeg)).toNatClampNeg) + ((10 : Int32) * (ta ((jp ((v3 + (-1 : Int32))).toNatClampNeg)).toNatClampNeg)))), bl) O (jp, ji) V Y Z O9) k n) (g := True ∧ True ∧ True ∧ vp_in ((jp ((v3 + (-1 : Int32))).toNatClampNeg)) 120 ∧ True ∧ True ∧ True ∧ True ∧ vp_in ((jp ((v3 + (-1 : Int32))).toNatClampNeg)) 120 ∧ True ∧ True ∧ vp_in ((((60 : Int32) * v1) + v4)) 5760 ∧ True ∧ True ∧ True ∧ True) (by with_unfolding_all rfl) ⟨trivial, trivial, trivial, g42, trivial, trivial, trivial, trivial, g43, trivial, trivial, g44, trivial, trivial, trivial, trivial⟩ ?_
            by_cases c45 : (1 : Int32) ≠ 0
            · rw [if_pos c45] at h
              refine am_ev_pos c45 ?_
              by_cases g46 : ((jp ((v3 + (-1 : Int32))).toNatClampNeg) < 0 ∨ 120 ≤ ((jp ((v3 + (-1 : Int32))).toNatClampNeg)).toNatClampNeg)
              · rw [if_pos g46] at h; cases h
              rw [if_neg g46] at h
              by_cases g47 : ((v3 + (-1 : Int32)) < 0 ∨ 130 ≤ ((v3 + (-1 : Int32))).toNatClampNeg)
              · rw [if_pos g47] at h; cases h
              rw [if_neg g47] at h
              by_cases g48 : ((jp ((v3 + (-1 : Int32))).toNatClampNeg) < 0 ∨ 120 ≤ ((jp ((v3 + (-1 : Int32))).toNatClampNeg)).toNatClampNeg)
              · rw [if_pos g48] at h; cases h
              rw [if_neg g48] at h
              by_cases g49 : (((v3 + (-1 : Int32)) + (1 : Int32)) < 0 ∨ 130 ≤ (((v3 + (-1 : Int32)) + (1 : Int32))).toNatClampNeg)
              · rw [if_pos g49] at h; cases h
              rw [if_neg g49] at h
              refine am_ev_st 20 (f' := (12, [(3, .int ((v3 + (-1 : Int32)) + (2 : Int32))), (4, .int (v4 + (1 : Int32))), (6, .int (1 : Int32)), (5, .int (jp ((v3 + (-1 : Int32))).toNatClampNeg)), (0, .ref 19), (1, .int v1), (2, .int v2)], [], (W9 N C E F P Q (te, tk, ta, tb, tn, td) G U H ((upd br ((((60 : Int32) * v1) + v4)).toNatClampNeg ((tk ((jp ((v3 + (-1 : Int32))).toNatClampNeg)).toNatClampNeg) + ((10 : Int32) * (ta ((jp ((v3 + (-1 : Int32))).toNatClampNeg)).toNatClampNeg)))), bl) O ((upd (upd jp ((v3 + (-1 : Int32))).toNatClampNeg (tb ((jp ((v3 + (-1 : Int32))).toNatClampNeg)).toNatClampNeg)) (((v3 + (-1 : Int32)) + (1 : Int32))).toNatClampNeg (ta ((jp ((v3 + (-1 : Int32))).toNatClampNeg)).toNatClampNeg)), ji) V Y Z O9), k, n)) (g := True ∧ True ∧ True ∧ True ∧ True ∧ True ∧ vp_in ((jp ((v3 + (-1 : Int32))).toNatClampNeg)) 120 ∧ vp_in ((v3 + (-1 : Int32))) 130 ∧ True ∧ True ∧ True ∧ True ∧ True ∧ True ∧ True ∧ True ∧ vp_in ((jp ((v3 + (-1 : Int32))).toNatClampNeg)) 120 ∧ vp_in (((v3 + (-1 : Int32)) + (1 : Int32))) 130 ∧ True ∧ True ∧ True) (by with_unfolding_all rfl) ⟨trivial, trivial, trivial, trivial, trivial, trivial, g46, g47, trivial, trivial, trivial, trivial, trivial, trivial, trivial, trivial, g48, g49, trivial, trivial, trivial⟩ ?_
              refine am_ev_drop [4, 5, 6, 0, 1] rfl rfl ?_
              exact ih h
            · rw [if_neg c45] at h
              refine am_ev_neg c45 ?_
              refine am_ev_st 1 (f' := (12, [(4, .int (v4 + (1 : Int32))), (6, .int (1 : Int32)), (5, .int (jp ((v3 + (-1 : Int32))).toNatClampNeg)), (3, .int (v3 + (-1 : Int32))), (0, .ref 19), (1, .int v1), (2, .int v2)], [], (W9 N C E F P Q (te, tk, ta, tb, tn, td) G U H ((upd br ((((60 : Int32) * v1) + v4)).toNatClampNeg ((tk ((jp ((v3 + (-1 : Int32))).toNatClampNeg)).toNatClampNeg) + ((10 : Int32) * (ta ((jp ((v3 + (-1 : Int32))).toNatClampNeg)).toNatClampNeg)))), bl) O (jp, ji) V Y Z O9), k, n)) (g := True ∧ True) (by with_unfolding_all rfl) ⟨trivial, trivial⟩ ?_
              refine am_ev_drop [4, 5, 6, 3, 0] rfl rfl ?_
              exact ih h
          · rw [if_neg c41] at h
            refine am_ev_neg c41 ?_
            obtain ⟨br, bl⟩ := B
            try dsimp only at h
            by_cases g50 : ((jp ((v3 + (-1 : Int32))).toNatClampNeg) < 0 ∨ 120 ≤ ((jp ((v3 + (-1 : Int32))).toNatClampNeg)).toNatClampNeg)
            · rw [if_pos g50] at h; cases h
            rw [if_neg g50] at h
            by_cases g51 : ((((60 : Int32) * v1) + v4) < 0 ∨ 5760 ≤ ((((60 : Int32) * v1) + v4)).toNatClampNeg)
            · rw [if_pos g51] at h; cases h
            rw [if_neg g51] at h
            refine am_ev_st 9 (f' := am_br ((1 : Int32) ≠ 0) 112 106 [(4, .int (v4 + (1 : Int32))), (6, .int (1 : Int32)), (5, .int (jp ((v3 + (-1 : Int32))).toNatClampNeg)), (3, .int (v3 + (-1 : Int32))), (0, .ref 19), (1, .int v1), (2, .int v2)] [] (W9 N C E F P Q (te, tk, ta, tb, tn, td) G U H ((upd br ((((60 : Int32) * v1) + v4)).toNatClampNeg (tk ((jp ((v3 + (-1 : Int32))).toNatClampNeg)).toNatClampNeg)), bl) O (jp, ji) V Y Z O9) k n) (g := True ∧ True ∧ True ∧ vp_in ((jp ((v3 + (-1 : Int32))).toNatClampNeg)) 120 ∧ True ∧ vp_in ((((60 : Int32) * v1) + v4)) 5760 ∧ True ∧ True ∧ True ∧ True) (by with_unfolding_all rfl) ⟨trivial, trivial, trivial, g50, trivial, g51, trivial, trivial, trivial, trivial⟩ ?_
            by_cases c52 : (1 : Int32) ≠ 0
            · rw [if_pos c52] at h
              refine am_ev_pos c52 ?_
              by_cases g53 : ((jp ((v3 + (-1 : Int32))).toNatClampNeg) < 0 ∨ 120 ≤ ((jp ((v3 + (-1 : Int32))).toNatClampNeg)).toNatClampNeg)
              · rw [if_pos g53] at h; cases h
              rw [if_neg g53] at h
              by_cases g54 : ((v3 + (-1 : Int32)) < 0 ∨ 130 ≤ ((v3 + (-1 : Int32))).toNatClampNeg)
              · rw [if_pos g54] at h; cases h
              rw [if_neg g54] at h
              by_cases g55 : ((jp ((v3 + (-1 : Int32))).toNatClampNeg) < 0 ∨ 120 ≤ ((jp ((v3 + (-1 : Int32))).toNatClampNeg)).toNatClampNeg)
              · rw [if_pos g55] at h; cases h
              rw [if_neg g55] at h
              by_cases g56 : (((v3 + (-1 : Int32)) + (1 : Int32)) < 0 ∨ 130 ≤ (((v3 + (-1 : Int32)) + (1 : Int32))).toNatClampNeg)
              · rw [if_pos g56] at h; cases h
              rw [if_neg g56] at h
              refine am_ev_st 20 (f' := (12, [(3, .int ((v3 + (-1 : Int32)) + (2 : Int32))), (4, .int (v4 + (1 : Int32))), (6, .int (1 : Int32)), (5, .int (jp ((v3 + (-1 : Int32))).toNatClampNeg)), (0, .ref 19), (1, .int v1), (2, .int v2)], [], (W9 N C E F P Q (te, tk, ta, tb, tn, td) G U H ((upd br ((((60 : Int32) * v1) + v4)).toNatClampNeg (tk ((jp ((v3 + (-1 : Int32))).toNatClampNeg)).toNatClampNeg)), bl) O ((upd (upd jp ((v3 + (-1 : Int32))).toNatClampNeg (tb ((jp ((v3 + (-1 : Int32))).toNatClampNeg)).toNatClampNeg)) (((v3 + (-1 : Int32)) + (1 : Int32))).toNatClampNeg (ta ((jp ((v3 + (-1 : Int32))).toNatClampNeg)).toNatClampNeg)), ji) V Y Z O9), k, n)) (g := True ∧ True ∧ True ∧ True ∧ True ∧ True ∧ vp_in ((jp ((v3 + (-1 : Int32))).toNatClampNeg)) 120 ∧ vp_in ((v3 + (-1 : Int32))) 130 ∧ True ∧ True ∧ True ∧ True ∧ True ∧ True ∧ True ∧ True ∧ vp_in ((jp ((v3 + (-1 : Int32))).toNatClampNeg)) 120 ∧ vp_in (((v3 + (-1 : Int32)) + (1 : Int32))) 130 ∧ True ∧ True ∧ True) (by with_unfolding_all rfl) ⟨trivial, trivial, trivial, trivial, trivial, trivial, g53, g54, trivial, trivial, trivial, trivial, trivial, trivial, trivial, trivial, g55, g56, trivial, trivial, trivial⟩ ?_
              refine am_ev_drop [4, 5, 6, 0, 1] rfl rfl ?_
              exact ih h
            · rw [if_neg c52] at h
              refine am_ev_neg c52 ?_
              refine am_ev_st 1 (f' := (12, [(4, .int (v4 + (1 : Int32))), (6, .int (1 : Int32)), (5, .int (jp ((v3 + (-1 : Int32))).toNatClampNeg)), (3, .int (v3 + (-1 : Int32))), (0, .ref 19), (1, .int v1), (2, .int v2)], [], (W9 N C E F P Q (te, tk, ta, tb, tn, td) G U H ((upd br ((((60 : Int32) * v1) + v4)).toNatClampNeg (tk ((jp ((v3 + (-1 : Int32))).toNatClampNeg)).toNatClampNeg)), bl) O (jp, ji) V Y Z O9), k, n)) (g := True ∧ True) (by with_unfolding_all rfl) ⟨trivial, trivial⟩ ?_
              refine am_ev_drop [4, 5, 6, 3, 0] rfl rfl ?_
              exact ih h
set_option maxHeartbeats 4000000 in
set_option maxRecDepth 100000 in
theorem ok_fm_load {fl : Nat} {N : cN} {C : cC} {E : cE} {F : cF} {P : cP} {Q : cQ} {T : cT} {G : cG} {U : cU} {H : cH} {B : cB} {O : cO} {J : cJ} {V : cV} {Y : cY} {Z : cZ} {O9 : cO9} {k n : Nat} {p1 p2 : Int32} {B' : cB} {J' : cJ} (h : fm_load fl T B J p1 p2 = some (B', J')) (D : Nat) (hD : 1 ≤ D) : am_Call D 109 [.ref 19, .int p1, .int p2] (W9 N C E F P Q T G U H B O J V Y Z O9) k n (.inl none, W9 N C E F P Q T G U H B' O J' V Y Z O9, k, n) := by
  unfold fm_load at h
  obtain ⟨D, rfl⟩ : ∃ D', D = D' + 1 := ⟨D - 1, by omega⟩
  have hD : 0 ≤ D := by omega
  refine am_call_run (by decide) (by decide) rfl (Nat.le_of_ble_eq_true rfl) (by decide) (L := [(0, .ref 19), (1, .int p1), (2, .int p2)]) rfl ?_
  obtain ⟨jp, ji⟩ := J
  try dsimp only at h
  by_cases g1 : ((0 : Int32) < 0 ∨ 130 ≤ ((0 : Int32)).toNatClampNeg)
  · rw [if_pos g1] at h; cases h
  rw [if_neg g1] at h
  refine am_ev_st 9 (f' := (12, [(4, .int (0 : Int32)), (3, .int (1 : Int32)), (0, .ref 19), (1, .int p1), (2, .int p2)], [], (W9 N C E F P Q T G U H B O ((upd jp ((0 : Int32)).toNatClampNeg p2), ji) V Y Z O9), k, n)) (g := True ∧ True ∧ True ∧ True ∧ True ∧ True ∧ vp_in ((0 : Int32)) 130 ∧ True ∧ True ∧ True) (by with_unfolding_all rfl) ⟨trivial, trivial, trivial, trivial, trivial, trivial, g1, trivial, trivial, trivial⟩ ?_
  refine am_ev_drop [2, 3, 4, 1, 0] rfl rfl ?_
  exact ok_lp_fm_load_12 h D hD
