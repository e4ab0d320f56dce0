def fm_declare (fl : Nat) (T : cT) (G : cG) (U : cU) (B : cB) (O : cO) (J : cJ) (V : cV) (Y : cY) (Z : cZ) (p1 p2 : Int32) : Option (Int32 × cG × cU × cB × cO × cJ × cV × cY × cZ) :=
  match G with
  | (gc, gb) =>
  if gc ≠ (16 : Int32) then
  ((fm_starts T ((0 : Int32)) V p1 p1 p2).bind fun z2 =>
  match z2 with
  | (r2, U_2, V_2) =>
  if (am_bz r2) ≠ 0 then
  ((fm_load fl T B J (63 : Int32) p1).bind fun z4 =>
  match z4 with
  | (B_4, J_4) =>
  (fm_toType fl G B_4 O J_4 V_2 Y Z (63 : Int32)).bind fun z5 =>
  match z5 with
  | (B_5, O_5, J_5, V_5, Y_5, Z_5) =>
  match V_5 with
  | (vf_5, vu_5, vx_5) =>
  if vx_5 ≠ 0 then
  (if vx_5 = 0 then
  ((fm_load fl T B_5 J_5 ((64 : Int32) + gc) p1).bind fun z8 =>
  match z8 with
  | (B_8, J_8) =>
  if (gc < 0 ∨ 16 ≤ (gc).toNatClampNeg) then none else
  some (((gc + (1 : Int32)) - (1 : Int32)), ((gc + (1 : Int32)), (upd gb (gc).toNatClampNeg (0 : Int32))), U_2, B_8, O_5, J_8, V_5, Y_5, Z_5))
  else
  (fm_fail U_2 vx_5).bind fun z10 =>
  match z10 with
  | (r10, U_10) =>
  some (r10, G, U_10, B_5, O_5, J_5, V_5, Y_5, Z_5))
  else
  (fm_levelIn fl G B_5 O_5 J_5 V_5 (63 : Int32)).bind fun z11 =>
  match z11 with
  | (r11, B_11, O_11, J_11, V_11) =>
  match V_11 with
  | (vf_11, vu_11, vx_11) =>
  if vx_11 = 0 then
  ((fm_load fl T B_11 J_11 ((64 : Int32) + gc) p1).bind fun z13 =>
  match z13 with
  | (B_13, J_13) =>
  if (gc < 0 ∨ 16 ≤ (gc).toNatClampNeg) then none else
  some (((gc + (1 : Int32)) - (1 : Int32)), ((gc + (1 : Int32)), (upd gb (gc).toNatClampNeg (0 : Int32))), U_2, B_13, O_11, J_13, V_11, Y_5, Z_5))
  else
  (fm_fail U_2 vx_11).bind fun z15 =>
  match z15 with
  | (r15, U_15) =>
  some (r15, G, U_15, B_11, O_11, J_11, V_11, Y_5, Z_5))
  else
  some ((0 : Int32), G, U_2, B, O, J, V_2, Y, Z))
  else
  some ((-1 : Int32), G, ((0 : Int32)), B, O, J, V, Y, Z)
set_option maxHeartbeats 4000000 in
set_option maxRecDepth 100000 in
theorem ok_fm_declare {fl : Nat} {N : cN} {C : cC} {E : cE} {F : cF} {P : cP} {Q : cQ} {T : cT} {G : cG} {U : cU} {H : cH} {B : cB} {O : cO} {J : cJ} {V : cV} {Y : cY} {Z : cZ} {O9 : cO9} {k n : Nat} {p1 p2 : Int32} {rv : Int32} {G' : cG} {U' : cU} {B' : cB} {O' : cO} {J' : cJ} {V' : cV} {Y' : cY} {Z' : cZ} (h : fm_declare fl T G U B O J V Y Z p1 p2 = some (rv, G', U', B', O', J', V', Y', Z')) (D : Nat) (hD : 8 ≤ D) : am_Call D 116 [.ref 19, .int p1, .int p2] (W9 N C E F P Q T G U H B O J V Y Z O9) k n (.inl (some (.int rv)), W9 N C E F P Q T G' U' H B' O' J' V' Y' Z' O9, k, n) := by
  unfold fm_declare at h
  obtain ⟨D, rfl⟩ : ∃ D', D = D' + 1 := ⟨D - 1, by omega⟩
  have hD : 7 ≤ D := by omega
  refine am_call_run (by decide) (by decide) rfl (Nat.le_of_ble_eq_true rfl) (by decide) (L := [(0, .ref 19), (1, .int p1), (2, .int p2)]) rfl ?_
  obtain ⟨gc, gb⟩ := G
  try dsimp only at h
  refine am_ev_st 7 (f' := am_br (gc ≠ (16 : Int32)) 16 11 [(0, .ref 19), (1, .int p1), (2, .int p2)] [] (W9 N C E F P Q T (gc, gb) ((0 : Int32)) H B O J V Y Z O9) k n) (g := True ∧ True ∧ True ∧ True ∧ True ∧ True ∧ True ∧ True) (by with_unfolding_all rfl) ⟨trivial, trivial, trivial, trivial, trivial, trivial, trivial, trivial⟩ ?_
  by_cases c1 : gc ≠ (16 : Int32)
  · rw [if_pos c1] at h
    refine am_ev_pos c1 ?_
    refine am_ev_st 4 (f' := (20, [(0, .ref 19), (1, .int p1), (2, .int p2)], [.int p2, .int p1, .int p1, .ref 19], (W9 N C E F P Q T (gc, gb) ((0 : Int32)) H B O J V Y Z O9), k, n)) (g := True ∧ True ∧ True ∧ True ∧ True) (by with_unfolding_all rfl) ⟨trivial, trivial, trivial, trivial, trivial⟩ ?_
    replace h := Option.bind_eq_some_iff.mp h
    obtain ⟨⟨r2, U_2, V_2⟩, hc2, h⟩ := h
    try dsimp only at h
    refine am_ev_call (.invokevirtual 199) 110 6 800 [.ref 19, .int p1, .int p1, .int p2] [] rfl rfl rfl rfl (ok_fm_starts hc2 D (by omega)) rfl ?_
    refine am_ev_st 1 (f' := am_br ((am_bz r2) ≠ 0) 28 23 [(0, .ref 19), (1, .int p1), (2, .int p2)] [] (W9 N C E F P Q T (gc, gb) U_2 H B O J V_2 Y Z O9) k n) (g := True ∧ True) (by with_unfolding_all rfl) ⟨trivial, trivial⟩ ?_
    by_cases c3 : (am_bz r2) ≠ 0
    · rw [if_pos c3] at h
      refine am_ev_pos c3 ?_
      refine am_ev_st 3 (f' := (32, [(0, .ref 19), (1, .int p1), (2, .int p2)], [.int p1, .int (63 : Int32), .ref 19], (W9 N C E F P Q T (gc, gb) U_2 H B O J V_2 Y Z O9), k, n)) (g := True ∧ True ∧ True ∧ True) (by with_unfolding_all rfl) ⟨trivial, trivial, trivial, trivial⟩ ?_
      replace h := Option.bind_eq_some_iff.mp h
      obtain ⟨⟨B_4, J_4⟩, hc4, h⟩ := h
      try dsimp only at h
      refine am_ev_call (.invokevirtual 203) 109 4 804 [.ref 19, .int (63 : Int32), .int p1] [] rfl rfl rfl rfl (ok_fm_load hc4 D (by omega)) rfl ?_
      refine am_ev_st 2 (f' := (38, [(0, .ref 19), (1, .int p1), (2, .int p2)], [.int (63 : Int32), .ref 19], (W9 N C E F P Q T (gc, gb) U_2 H B_4 O J_4 V_2 Y Z O9), k, n)) (g := True ∧ True ∧ True) (by with_unfolding_all rfl) ⟨trivial, trivial, trivial⟩ ?_
      replace h := Option.bind_eq_some_iff.mp h
      obtain ⟨⟨B_5, O_5, J_5, V_5, Y_5, Z_5⟩, hc5, h⟩ := h
      try dsimp only at h
      refine am_ev_call (.invokevirtual 206) 104 2 808 [.ref 19, .int (63 : Int32)] [] rfl rfl rfl rfl (ok_fm_toType hc5 D (by omega)) rfl ?_
      obtain ⟨vf_5, vu_5, vx_5⟩ := V_5
      try dsimp only at h
      refine am_ev_st 3 (f' := am_br (vx_5 ≠ 0) 55 45 [(0, .ref 19), (1, .int p1), (2, .int p2)] [] (W9 N C E F P Q T (gc, gb) U_2 H B_5 O_5 J_5 (vf_5, vu_5, vx_5) Y_5 Z_5 O9) k n) (g := True ∧ True ∧ True ∧ True) (by with_unfolding_all rfl) ⟨trivial, trivial, trivial, trivial⟩ ?_
      by_cases c6 : vx_5 ≠ 0
      · rw [if_pos c6] at h
        refine am_ev_pos c6 ?_
        refine am_ev_st 3 (f' := am_br (vx_5 = 0) 71 59 [(0, .ref 19), (1, .int p1), (2, .int p2)] [] (W9 N C E F P Q T (gc, gb) U_2 H B_5 O_5 J_5 (vf_5, vu_5, vx_5) Y_5 Z_5 O9) k n) (g := True ∧ True ∧ True ∧ True) (by with_unfolding_all rfl) ⟨trivial, trivial, trivial, trivial⟩ ?_
        by_cases c7 : vx_5 = 0
        · rw [if_pos c7] at h
          refine am_ev_pos c7 ?_
          refine am_ev_st 6 (f' := (80, [(0, .ref 19), (1, .int p1), (2, .int p2)], [.int p1, .int ((64 : Int32) + gc), .ref 19], (W9 N C E F P Q T (gc, gb) U_2 H B_5 O_5 J_5 (vf_5, vu_5, vx_5) Y_5 Z_5 O9), k, n)) (g := True ∧ True ∧ True ∧ True ∧ True ∧ True ∧ True) (by with_unfolding_all rfl) ⟨trivial, trivial, trivial, trivial, trivial, trivial, trivial⟩ ?_
          replace h := Option.bind_eq_some_iff.mp h
          obtain ⟨⟨B_8, J_8⟩, hc8, h⟩ := h
          try dsimp only at h
          refine am_ev_call (.invokevirtual 203) 109 4 804 [.ref 19, .int ((64 : Int32) + gc), .int p1] [] rfl rfl rfl rfl (ok_fm_load hc8 D (by omega)) rfl ?_
          by_cases g9 : (gc < 0 ∨ 16 ≤ (gc).toNatClampNeg)
          · rw [if_pos g9] at h; cases h
          rw [if_neg g9] at h
          refine am_ev_st 16 (f' := (109, [(0, .ref 19), (1, .int p1), (2, .int p2)], [.int ((gc + (1 : Int32)) - (1 : Int32))], (W9 N C E F P Q T ((gc + (1 : Int32)), (upd gb (gc).toNatClampNeg (0 : Int32))) U_2 H B_8 O_5 J_8 (vf_5, vu_5, vx_5) Y_5 Z_5 O9), k, n)) (g := True ∧ True ∧ True ∧ True ∧ True ∧ (vp_in (gc) 16 ∧ vp_nar .boolean (0 : Int32) = (0 : Int32)) ∧ True ∧ True ∧ True ∧ True ∧ True ∧ True ∧ True ∧ True ∧ True ∧ True ∧ True) (by with_unfolding_all rfl) ⟨trivial, trivial, trivial, trivial, trivial, ⟨g9, by decide +kernel⟩, trivial, trivial, trivial, trivial, trivial, trivial, trivial, trivial, trivial, trivial, trivial⟩ ?_
          cases h
          exact am_ev_ret 0 0 0 rfl .int rfl rfl rfl
        · rw [if_neg c7] at h
          refine am_ev_neg c7 ?_
          refine am_ev_st 3 (f' := (67, [(0, .ref 19), (1, .int p1), (2, .int p2)], [.int vx_5, .ref 19], (W9 N C E F P Q T (gc, gb) U_2 H B_5 O_5 J_5 (vf_5, vu_5, vx_5) Y_5 Z_5 O9), k, n)) (g := True ∧ True ∧ True ∧ True) (by with_unfolding_all rfl) ⟨trivial, trivial, trivial, trivial⟩ ?_
          replace h := Option.bind_eq_some_iff.mp h
          obtain ⟨⟨r10, U_10⟩, hc10, h⟩ := h
          try dsimp only at h
          refine am_ev_call (.invokevirtual 212) 77 2 917 [.ref 19, .int vx_5] [] rfl rfl rfl rfl (ok_fm_fail hc10 D (by omega)) rfl ?_
          cases h
          exact am_ev_ret 0 0 0 rfl .int rfl rfl rfl
      · rw [if_neg c6] at h
        refine am_ev_neg c6 ?_
        refine am_ev_st 2 (f' := (51, [(0, .ref 19), (1, .int p1), (2, .int p2)], [.int (63 : Int32), .ref 19], (W9 N C E F P Q T (gc, gb) U_2 H B_5 O_5 J_5 (vf_5, vu_5, vx_5) Y_5 Z_5 O9), k, n)) (g := True ∧ True ∧ True) (by with_unfolding_all rfl) ⟨trivial, trivial, trivial⟩ ?_
        replace h := Option.bind_eq_some_iff.mp h
        obtain ⟨⟨r11, B_11, O_11, J_11, V_11⟩, hc11, h⟩ := h
        try dsimp only at h
        refine am_ev_call (.invokevirtual 171) 99 2 893 [.ref 19, .int (63 : Int32)] [] rfl rfl rfl rfl (ok_fm_levelIn hc11 D (by omega)) rfl ?_
        obtain ⟨vf_11, vu_11, vx_11⟩ := V_11
        try dsimp only at h
        refine am_ev_st 4 (f' := am_br (vx_11 = 0) 71 59 [(0, .ref 19), (1, .int p1), (2, .int p2)] [] (W9 N C E F P Q T (gc, gb) U_2 H B_11 O_11 J_11 (vf_11, vu_11, vx_11) Y_5 Z_5 O9) k n) (g := True ∧ True ∧ True ∧ True ∧ True) (by with_unfolding_all rfl) ⟨trivial, trivial, trivial, trivial, trivial⟩ ?_
        by_cases c12 : vx_11 = 0
        · rw [if_pos c12] at h
          refine am_ev_pos c12 ?_
          refine am_ev_st 6 (f' := (80, [(0, .ref 19), (1, .int p1), (2, .int p2)], [.int p1, .int ((64 : Int32) + gc), .ref 19], (W9 N C E F P Q T (gc, gb) U_2 H B_11 O_11 J_11 (vf_11, vu_11, vx_11) Y_5 Z_5 O9), k, n)) (g := True ∧ True ∧ True ∧ True ∧ True ∧ True ∧ True) (by with_unfolding_all rfl) ⟨trivial, trivial, trivial, trivial, trivial, trivial, trivial⟩ ?_
          replace h := Option.bind_eq_some_iff.mp h
          obtain ⟨⟨B_13, J_13⟩, hc13, h⟩ := h
          try dsimp only at h
          refine am_ev_call (.invokevirtual 203) 109 4 804 [.ref 19, .int ((64 : Int32) + gc), .int p1] [] rfl rfl rfl rfl (ok_fm_load hc13 D (by omega)) rfl ?_
          by_cases g14 : (gc < 0 ∨ 16 ≤ (gc).toNatClampNeg)
          · rw [if_pos g14] at h; cases h
          rw [if_neg g14] at h
          refine am_ev_st 16 (f' := (109, [(0, .ref 19), (1, .int p1), (2, .int p2)], [.int ((gc + (1 : Int32)) - (1 : Int32))], (W9 N C E F P Q T ((gc + (1 : Int32)), (upd gb (gc).toNatClampNeg (0 : Int32))) U_2 H B_13 O_11 J_13 (vf_11, vu_11, vx_11) Y_5 Z_5 O9), k, n)) (g := True ∧ True ∧ True ∧ True ∧ True ∧ (vp_in (gc) 16 ∧ vp_nar .boolean (0 : Int32) = (0 : Int32)) ∧ True ∧ True ∧ True ∧ True ∧ True ∧ True ∧ True ∧ True ∧ True ∧ True ∧ True) (by with_unfolding_all rfl) ⟨trivial, trivial, trivial, trivial, trivial, ⟨g14, by decide +kernel⟩, trivial, trivial, trivial, trivial, trivial, trivial, trivial, trivial, trivial, trivial, trivial⟩ ?_
          cases h
          exact am_ev_ret 0 0 0 rfl .int rfl rfl rfl
        · rw [if_neg c12] at h
          refine am_ev_neg c12 ?_
          refine am_ev_st 3 (f' := (67, [(0, .ref 19), (1, .int p1), (2, .int p2)], [.int vx_11, .ref 19], (W9 N C E F P Q T (gc, gb) U_2 H B_11 O_11 J_11 (vf_11, vu_11, vx_11) Y_5 Z_5 O9), k, n)) (g := True ∧ True ∧ True ∧ True) (by with_unfolding_all rfl) ⟨trivial, trivial, trivial, trivial⟩ ?_
          replace h := Option.bind_eq_some_iff.mp h
          obtain ⟨⟨r15, U_15⟩, hc15, h⟩ := h
          try dsimp only at h
          refine am_ev_call (.invokevirtual 212) 77 2 917 [.ref 19, .int vx_11] [] rfl rfl rfl rfl (ok_fm_fail hc15 D (by omega)) rfl ?_
          cases h
          exact am_ev_ret 0 0 0 rfl .int rfl rfl rfl
    · rw [if_neg c3] at h
      refine am_ev_neg c3 ?_
      refine am_ev_st 1 (f' := (27, [(0, .ref 19), (1, .int p1), (2, .int p2)], [.int (0 : Int32)], (W9 N C E F P Q T (gc, gb) U_2 H B O J V_2 Y Z O9), k, n)) (g := True ∧ True) (by with_unfolding_all rfl) ⟨trivial, trivial⟩ ?_
      cases h
      exact am_ev_ret 0 0 0 rfl .int rfl rfl rfl
  · rw [if_neg c1] at h
    refine am_ev_neg c1 ?_
    refine am_ev_st 1 (f' := (15, [(0, .ref 19), (1, .int p1), (2, .int p2)], [.int (-1 : Int32)], (W9 N C E F P Q T (gc, gb) ((0 : Int32)) H B O J V Y Z O9), k, n)) (g := True ∧ True) (by with_unfolding_all rfl) ⟨trivial, trivial⟩ ?_
    cases h
    exact am_ev_ret 0 0 0 rfl .int rfl rfl rfl
def lp_fm_define_59 (fl : Nat) : Nat → cT → cG → cU → cB → cO → cJ → cV → cY → cZ → Int32 → Int32 → Int32 → Option (Int32 × cG × cU × cB × cO × cJ × cV × cY × cZ)
  | 0, _, _, _, _, _, _, _, _, _, _, _, _ => none
  | w + 1, T, G, U, B, O, J, V, Y, Z, v1, v2, v3 =>
    match B with
    | (br, bl) =>
    if ((63 : Int32) < 0 ∨ 96 ≤ ((63 : Int32)).toNatClampNeg) then none else
    if (bl ((63 : Int32)).toNatClampNeg) ≤ v3 then
    (match G with
    | (gc, gb) =>
    (fm_copy fl B ((64 : Int32) + gc) (63 : Int32)).bind fun z9 =>
    match z9 with
    | (B_9) =>
    (fm_load fl T B_9 J ((80 : Int32) + gc) v1).bind fun z10 =>
    match z10 with
    | (B_10, J_10) =>
    if (gc < 0 ∨ 16 ≤ (gc).toNatClampNeg) then none else
    some (((gc + (1 : Int32)) - (1 : Int32)), ((gc + (1 : Int32)), (upd gb (gc).toNatClampNeg (1 : Int32))), U, B_10, O, J_10, V, Y, Z))
    else
    (fm_at B (63 : Int32) v3).bind fun z12 =>
    match z12 with
    | (r12) =>
    (fm_kindOf r12).bind fun z13 =>
    match z13 with
    | (r13) =>
    if r13 ≠ (1 : Int32) then
    (lp_fm_define_59 fl w T G U B O J V Y Z v1 v2 (v3 + (1 : Int32)))
    else
    (fm_at B (63 : Int32) v3).bind fun z15 =>
    match z15 with
    | (r15) =>
    if r15 ≤ (100 : Int32) then
    (lp_fm_define_59 fl w T G U B O J V Y Z v1 v2 (v3 + (1 : Int32)))
    else
    some ((-1 : Int32), G, U, B, O, J, V, Y, Z)
def fm_define (fl : Nat) (T : cT) (G : cG) (U : cU) (B : cB) (O : cO) (J : cJ) (V : cV) (Y : cY) (Z : cZ) (p1 p2 : Int32) : Option (Int32 × cG × cU × cB × cO × cJ × cV × cY × cZ) :=
  match G with
  | (gc, gb) =>
  if gc ≠ (16 : Int32) then
  ((fm_starts T ((0 : Int32)) V p1 p1 p2).bind fun z2 =>
  match z2 with
  | (r2, U_2, V_2) =>
  if (am_bz r2) ≠ 0 then
  ((fm_load fl T B J (63 : Int32) p1).bind fun z4 =>
  match z4 with
  | (B_4, J_4) =>
  (fm_toType fl G B_4 O J_4 V_2 Y Z (63 : Int32)).bind fun z5 =>
  match z5 with
  | (B_5, O_5, J_5, V_5, Y_5, Z_5) =>
  match V_5 with
  | (vf_5, vu_5, vx_5) =>
  if vx_5 = 0 then
  (lp_fm_define_59 fl fl T G U_2 B_5 O_5 J_5 V_5 Y_5 Z_5 p1 p2 (0 : Int32))
  else
  (fm_fail U_2 vx_5).bind fun z17 =>
  match z17 with
  | (r17, U_17) =>
  some (r17, G, U_17, B_5, O_5, J_5, V_5, Y_5, Z_5))
  else
  some ((0 : Int32), G, U_2, B, O, J, V_2, Y, Z))
  else
  some ((-1 : Int32), G, ((0 : Int32)), B, O, J, V, Y, Z)
set_option maxHeartbeats 4000000 in
set_option maxRecDepth 100000 in
theorem ok_lp_fm_define_59 {fl : Nat} : ∀ {w : Nat} {N : cN} {C : cC} {E : cE} {F : cF} {P : cP} {Q : cQ} {T : cT} {G : cG} {U : cU} {H : cH} {B : cB} {O : cO} {J : cJ} {V : cV} {Y : cY} {Z : cZ} {O9 : cO9} {k n : Nat} {v1 : Int32} {v2 : Int32} {v3 : Int32} {rv : Int32} {G' : cG} {U' : cU} {B' : cB} {O' : cO} {J' : cJ} {V' : cV} {Y' : cY} {Z' : cZ} (h : lp_fm_define_59 fl w T G U B O J V Y Z v1 v2 v3 = some (rv, G', U', B', O', J', V', Y', Z')) (D : Nat) (hD : 7 ≤ D), am_Ev D 117 0 (fun _ => 0) (59, [(0, .ref 19), (1, .int v1), (2, .int v2), (3, .int v3)], [], (W9 N C E F P Q T G U H B O J V Y Z O9), k, n) (.inl (some (.int rv)), W9 N C E F P Q T G' U' H B' O' J' V' Y' Z' O9, k, n) := by
  intro w
  induction w with
  | zero => intros; rename_i h _ _; cases h
  | succ w ih0 =>
    intro N C E F P Q T G U H B O J V Y Z O9 k n v1 v2 v3 rv G' U' B' O' J' V' Y' Z' h D hD
    have ih := fun {N} {C} {E} {F} {P} {Q} {T} {G} {U} {H} {B} {O} {J} {V} {Y} {Z} {O9} {k} {n} {v1} {v2} {v3} {rv} {G'} {U'} {B'} {O'} {J'} {V'} {Y'} {Z'} h => @ih0 N C E F P Q T G U H B O J V Y Z O9 k n v1 v2 v3 rv G' U' B' O' J' V' Y' Z' h D hD
    unfold lp_fm_define_59 at h
    obtain ⟨br, bl⟩ := B
    try dsimp only at h
    by_cases g7 : ((63 : Int32) < 0 ∨ 96 ≤ ((63 : Int32)).toNatClampNeg)
    · rw [if_pos g7] at h; cases h
    rw [if_neg g7] at h
    refine am_ev_st 6 (f' := am_br ((bl ((63 : Int32)).toNatClampNeg) ≤ v3) 104 67 [(0, .ref 19), (1, .int v1), (2, .int v2), (3, .int v3)] [] (W9 N C E F P Q T G U H (br, bl) O J V Y Z O9) k n) (g := True ∧ True ∧ True ∧ True ∧ vp_in ((63 : Int32)) 96 ∧ True ∧ True) (by with_unfolding_all rfl) ⟨trivial, trivial, trivial, trivial, g7, trivial, trivial⟩ ?_
    by_cases c8 : (bl ((63 : Int32)).toNatClampNeg) ≤ v3
    · rw [if_pos c8] at h
      refine am_ev_pos c8 ?_
      obtain ⟨gc, gb⟩ := G
      try dsimp only at h
      refine am_ev_st 6 (f' := (114, [(0, .ref 19), (1, .int v1), (2, .int v2), (3, .int v3)], [.int (63 : Int32), .int ((64 : Int32) + gc), .ref 19], (W9 N C E F P Q T (gc, gb) U H (br, bl) O J V Y Z O9), k, n)) (g := True ∧ True ∧ True ∧ True ∧ True ∧ True ∧ True) (by with_unfolding_all rfl) ⟨trivial, trivial, trivial, trivial, trivial, trivial, trivial⟩ ?_
      replace h := Option.bind_eq_some_iff.mp h
      obtain ⟨B_9, hc9, h⟩ := h
      try dsimp only at h
      refine am_ev_call (.invokevirtual 144) 84 4 827 [.ref 19, .int ((64 : Int32) + gc), .int (63 : Int32)] [] rfl rfl rfl rfl (ok_fm_copy hc9 D (by omega)) rfl ?_
      refine am_ev_st 6 (f' := (126, [(0, .ref 19), (1, .int v1), (2, .int v2), (3, .int v3)], [.int v1, .int ((80 : Int32) + gc), .ref 19], (W9 N C E F P Q T (gc, gb) U H B_9 O J V Y Z O9), k, n)) (g := True ∧ True ∧ True ∧ True ∧ True ∧ True ∧ True) (by with_unfolding_all rfl) ⟨trivial, trivial, trivial, trivial, trivial, trivial, trivial⟩ ?_
      replace h := Option.bind_eq_some_iff.mp h
      obtain ⟨⟨B_10, J_10⟩, hc10, h⟩ := h
      try dsimp only at h
      refine am_ev_call (.invokevirtual 203) 109 4 804 [.ref 19, .int ((80 : Int32) + gc), .int v1] [] rfl rfl rfl rfl (ok_fm_load hc10 D (by omega)) rfl ?_
      by_cases g11 : (gc < 0 ∨ 16 ≤ (gc).toNatClampNeg)
      · rw [if_pos g11] at h; cases h
      rw [if_neg g11] at h
      refine am_ev_st 16 (f' := (155, [(0, .ref 19), (1, .int v1), (2, .int v2), (3, .int v3)], [.int ((gc + (1 : Int32)) - (1 : Int32))], (W9 N C E F P Q T ((gc + (1 : Int32)), (upd gb (gc).toNatClampNeg (1 : Int32))) U H B_10 O J_10 V Y Z O9), k, n)) (g := True ∧ True ∧ True ∧ True ∧ True ∧ (vp_in (gc) 16 ∧ vp_nar .boolean (1 : Int32) = (1 : Int32)) ∧ True ∧ True ∧ True ∧ True ∧ True ∧ True ∧ True ∧ True ∧ True ∧ True ∧ True) (by with_unfolding_all rfl) ⟨trivial, trivial, trivial, trivial, trivial, ⟨g11, by decide +kernel⟩, trivial, trivial, trivial, trivial, trivial, trivial, trivial, trivial, trivial, trivial, trivial⟩ ?_
      cases h
      exact am_ev_ret 0 0 0 rfl .int rfl rfl rfl
    · rw [if_neg c8] at h
      refine am_ev_neg c8 ?_
      refine am_ev_st 3 (f' := (74, [(0, .ref 19), (1, .int v1), (2, .int v2), (3, .int v3)], [.int v3, .int (63 : Int32), .ref 19], (W9 N C E F P Q T G U H (br, bl) O J V Y Z O9), k, n)) (g := True ∧ True ∧ True ∧ True) (by with_unfolding_all rfl) ⟨trivial, trivial, trivial, trivial⟩ ?_
      replace h := Option.bind_eq_some_iff.mp h
      obtain ⟨r12, hc12, h⟩ := h
      try dsimp only at h
      refine am_ev_call (.invokevirtual 69) 81 4 820 [.ref 19, .int (63 : Int32), .int v3] [] rfl rfl rfl rfl (ok_fm_at hc12 D (by omega)) rfl ?_
      replace h := Option.bind_eq_some_iff.mp h
      obtain ⟨r13, hc13, h⟩ := h
      try dsimp only at h
      refine am_ev_call (.invokestatic 80) 78 2 824 [.int r12] [] rfl rfl rfl rfl (ok_fm_kindOf hc13 D (by omega)) rfl ?_
      refine am_ev_st 2 (f' := am_br (r13 ≠ (1 : Int32)) 98 81 [(0, .ref 19), (1, .int v1), (2, .int v2), (3, .int v3)] [] (W9 N C E F P Q T G U H (br, bl) O J V Y Z O9) k n) (g := True ∧ True ∧ True) (by with_unfolding_all rfl) ⟨trivial, trivial, trivial⟩ ?_
      by_cases c14 : r13 ≠ (1 : Int32)
      · rw [if_pos c14] at h
        refine am_ev_pos c14 ?_
        refine am_ev_st 2 (f' := (59, [(3, .int (v3 + (1 : Int32))), (0, .ref 19), (1, .int v1), (2, .int v2)], [], (W9 N C E F P Q T G U H (br, bl) O J V Y Z O9), k, n)) (g := True ∧ True ∧ True) (by with_unfolding_all rfl) ⟨trivial, trivial, trivial⟩ ?_
        refine am_ev_drop [1, 2, 3, 0] rfl rfl ?_
        exact ih h
      · rw [if_neg c14] at h
        refine am_ev_neg c14 ?_
        refine am_ev_st 3 (f' := (88, [(0, .ref 19), (1, .int v1), (2, .int v2), (3, .int v3)], [.int v3, .int (63 : Int32), .ref 19], (W9 N C E F P Q T G U H (br, bl) O J V Y Z O9), k, n)) (g := True ∧ True ∧ True ∧ True) (by with_unfolding_all rfl) ⟨trivial, trivial, trivial, trivial⟩ ?_
        replace h := Option.bind_eq_some_iff.mp h
        obtain ⟨r15, hc15, h⟩ := h
        try dsimp only at h
        refine am_ev_call (.invokevirtual 69) 81 4 820 [.ref 19, .int (63 : Int32), .int v3] [] rfl rfl rfl rfl (ok_fm_at hc15 D (by omega)) rfl ?_
        refine am_ev_st 2 (f' := am_br (r15 ≤ (100 : Int32)) 98 93 [(0, .ref 19), (1, .int v1), (2, .int v2), (3, .int v3)] [] (W9 N C E F P Q T G U H (br, bl) O J V Y Z O9) k n) (g := True ∧ True ∧ True) (by with_unfolding_all rfl) ⟨trivial, trivial, trivial⟩ ?_
        by_cases c16 : r15 ≤ (100 : Int32)
        · rw [if_pos c16] at h
          refine am_ev_pos c16 ?_
          refine am_ev_st 2 (f' := (59, [(3, .int (v3 + (1 : Int32))), (0, .ref 19), (1, .int v1), (2, .int v2)], [], (W9 N C E F P Q T G U H (br, bl) O J V Y Z O9), k, n)) (g := True ∧ True ∧ True) (by with_unfolding_all rfl) ⟨trivial, trivial, trivial⟩ ?_
          refine am_ev_drop [1, 2, 3, 0] rfl rfl ?_
          exact ih h
        · rw [if_neg c16] at h
          refine am_ev_neg c16 ?_
          refine am_ev_st 1 (f' := (97, [(0, .ref 19), (1, .int v1), (2, .int v2), (3, .int v3)], [.int (-1 : Int32)], (W9 N C E F P Q T G U H (br, bl) O J V Y Z O9), k, n)) (g := True ∧ True) (by with_unfolding_all rfl) ⟨trivial, trivial⟩ ?_
          cases h
          exact am_ev_ret 0 0 0 rfl .int rfl rfl rfl
set_option maxHeartbeats 4000000 in
set_option maxRecDepth 100000 in
theorem ok_fm_define {fl : Nat} {N : cN} {C : cC} {E : cE} {F : cF} {P : cP} {Q : cQ} {T : cT} {G : cG} {U : cU} {H : cH} {B : cB} {O : cO} {J : cJ} {V : cV} {Y : cY} {Z : cZ} {O9 : cO9} {k n : Nat} {p1 p2 : Int32} {rv : Int32} {G' : cG} {U' : cU} {B' : cB} {O' : cO} {J' : cJ} {V' : cV} {Y' : cY} {Z' : cZ} (h : fm_define fl T G U B O J V Y Z p1 p2 = some (rv, G', U', B', O', J', V', Y', Z')) (D : Nat) (hD : 8 ≤ D) : am_Call D 117 [.ref 19, .int p1, .int p2] (W9 N C E F P Q T G U H B O J V Y Z O9) k n (.inl (some (.int rv)), W9 N C E F P Q T G' U' H B' O' J' V' Y' Z' O9, k, n) := by
  unfold fm_define at h
  obtain ⟨D, rfl⟩ : ∃ D', D = D' + 1 := ⟨D - 1, by omega⟩
  have hD : 7 ≤ D := by omega
  refine am_call_run (by decide) (by decide) rfl (Nat.le_of_ble_eq_true rfl) (by decide) (L := [(0, .ref 19), (1, .int p1), (2, .int p2)]) rfl ?_
  obtain ⟨gc, gb⟩ := G
  try dsimp only at h
  refine am_ev_st 7 (f' := am_br (gc ≠ (16 : Int32)) 16 11 [(0, .ref 19), (1, .int p1), (2, .int p2)] [] (W9 N C E F P Q T (gc, gb) ((0 : Int32)) H B O J V Y Z O9) k n) (g := True ∧ True ∧ True ∧ True ∧ True ∧ True ∧ True ∧ True) (by with_unfolding_all rfl) ⟨trivial, trivial, trivial, trivial, trivial, trivial, trivial, trivial⟩ ?_
  by_cases c1 : gc ≠ (16 : Int32)
  · rw [if_pos c1] at h
    refine am_ev_pos c1 ?_
    refine am_ev_st 4 (f' := (20, [(0, .ref 19), (1, .int p1), (2, .int p2)], [.int p2, .int p1, .int p1, .ref 19], (W9 N C E F P Q T (gc, gb) ((0 : Int32)) H B O J V Y Z O9), k, n)) (g := True ∧ True ∧ True ∧ True ∧ True) (by with_unfolding_all rfl) ⟨trivial, trivial, trivial, trivial, trivial⟩ ?_
    replace h := Option.bind_eq_some_iff.mp h
    obtain ⟨⟨r2, U_2, V_2⟩, hc2, h⟩ := h
    try dsimp only at h
    refine am_ev_call (.invokevirtual 199) 110 6 800 [.ref 19, .int p1, .int p1, .int p2] [] rfl rfl rfl rfl (ok_fm_starts hc2 D (by omega)) rfl ?_
    refine am_ev_st 1 (f' := am_br ((am_bz r2) ≠ 0) 28 23 [(0, .ref 19), (1, .int p1), (2, .int p2)] [] (W9 N C E F P Q T (gc, gb) U_2 H B O J V_2 Y Z O9) k n) (g := True ∧ True) (by with_unfolding_all rfl) ⟨trivial, trivial⟩ ?_
    by_cases c3 : (am_bz r2) ≠ 0
    · rw [if_pos c3] at h
      refine am_ev_pos c3 ?_
      refine am_ev_st 3 (f' := (32, [(0, .ref 19), (1, .int p1), (2, .int p2)], [.int p1, .int (63 : Int32), .ref 19], (W9 N C E F P Q T (gc, gb) U_2 H B O J V_2 Y Z O9), k, n)) (g := True ∧ True ∧ True ∧ True) (by with_unfolding_all rfl) ⟨trivial, trivial, trivial, trivial⟩ ?_
      replace h := Option.bind_eq_some_iff.mp h
      obtain ⟨⟨B_4, J_4⟩, hc4, h⟩ := h
      try dsimp only at h
      refine am_ev_call (.invokevirtual 203) 109 4 804 [.ref 19, .int (63 : Int32), .int p1] [] rfl rfl rfl rfl (ok_fm_load hc4 D (by omega)) rfl ?_
      refine am_ev_st 2 (f' := (38, [(0, .ref 19), (1, .int p1), (2, .int p2)], [.int (63 : Int32), .ref 19], (W9 N C E F P Q T (gc, gb) U_2 H B_4 O J_4 V_2 Y Z O9), k, n)) (g := True ∧ True ∧ True) (by with_unfolding_all rfl) ⟨trivial, trivial, trivial⟩ ?_
      replace h := Option.bind_eq_some_iff.mp h
      obtain ⟨⟨B_5, O_5, J_5, V_5, Y_5, Z_5⟩, hc5, h⟩ := h
      try dsimp only at h
      refine am_ev_call (.invokevirtual 206) 104 2 808 [.ref 19, .int (63 : Int32)] [] rfl rfl rfl rfl (ok_fm_toType hc5 D (by omega)) rfl ?_
      obtain ⟨vf_5, vu_5, vx_5⟩ := V_5
      try dsimp only at h
      refine am_ev_st 3 (f' := am_br (vx_5 = 0) 57 45 [(0, .ref 19), (1, .int p1), (2, .int p2)] [] (W9 N C E F P Q T (gc, gb) U_2 H B_5 O_5 J_5 (vf_5, vu_5, vx_5) Y_5 Z_5 O9) k n) (g := True ∧ True ∧ True ∧ True) (by with_unfolding_all rfl) ⟨trivial, trivial, trivial, trivial⟩ ?_
      by_cases c6 : vx_5 = 0
      · rw [if_pos c6] at h
        refine am_ev_pos c6 ?_
        refine am_ev_st 2 (f' := (59, [(3, .int (0 : Int32)), (0, .ref 19), (1, .int p1), (2, .int p2)], [], (W9 N C E F P Q T (gc, gb) U_2 H B_5 O_5 J_5 (vf_5, vu_5, vx_5) Y_5 Z_5 O9), k, n)) (g := True ∧ True ∧ True) (by with_unfolding_all rfl) ⟨trivial, trivial, trivial⟩ ?_
        refine am_ev_drop [1, 2, 3, 0] rfl rfl ?_
        exact ok_lp_fm_define_59 h D hD
      · rw [if_neg c6] at h
        refine am_ev_neg c6 ?_
        refine am_ev_st 3 (f' := (53, [(0, .ref 19), (1, .int p1), (2, .int p2)], [.int vx_5, .ref 19], (W9 N C E F P Q T (gc, gb) U_2 H B_5 O_5 J_5 (vf_5, vu_5, vx_5) Y_5 Z_5 O9), k, n)) (g := True ∧ True ∧ True ∧ True) (by with_unfolding_all rfl) ⟨trivial, trivial, trivial, trivial⟩ ?_
        replace h := Option.bind_eq_some_iff.mp h
        obtain ⟨⟨r17, U_17⟩, hc17, h⟩ := h
        try dsimp only at h
        refine am_ev_call (.invokevirtual 212) 77 2 917 [.ref 19, .int vx_5] [] rfl rfl rfl rfl (ok_fm_fail hc17 D (by omega)) rfl ?_
        cases h
        exact am_ev_ret 0 0 0 rfl .int rfl rfl rfl
    · rw [if_neg c3] at h
      refine am_ev_neg c3 ?_
      refine am_ev_st 1 (f' := (27, [(0, .ref 19), (1, .int p1), (2, .int p2)], [.int (0 : Int32)], (W9 N C E F P Q T (gc, gb) U_2 H B O J V_2 Y Z O9), k, n)) (g := True ∧ True) (by with_unfolding_all rfl) ⟨trivial, trivial⟩ ?_
      cases h
      exact am_ev_ret 0 0 0 rfl .int rfl rfl rfl
  · rw [if_neg c1] at h
    refine am_ev_neg c1 ?_
    refine am_ev_st 1 (f' := (15, [(0, .ref 19), (1, .int p1), (2, .int p2)], [.int (-1 : Int32)], (W9 N C E F P Q T (gc, gb) ((0 : Int32)) H B O J V Y Z O9), k, n)) (g := True ∧ True) (by with_unfolding_all rfl) ⟨trivial, trivial⟩ ?_
    cases h
    exact am_ev_ret 0 0 0 rfl .int rfl rfl rfl
def fm_constants (G : cG) (U : cU) : Option (Int32 × cU) :=
  match G with
  | (gc, gb) =>
  some (gc, ((0 : Int32)))
set_option maxHeartbeats 4000000 in
set_option maxRecDepth 100000 in
theorem ok_fm_constants  {N : cN} {C : cC} {E : cE} {F : cF} {P : cP} {Q : cQ} {T : cT} {G : cG} {U : cU} {H : cH} {B : cB} {O : cO} {J : cJ} {V : cV} {Y : cY} {Z : cZ} {O9 : cO9} {k n : Nat} {rv : Int32} {U' : cU} (h : fm_constants G U = some (rv, U')) (D : Nat) (hD : 1 ≤ D) : am_Call D 118 [.ref 19] (W9 N C E F P Q T G U H B O J V Y Z O9) k n (.inl (some (.int rv)), W9 N C E F P Q T G U' H B O J V Y Z O9, k, n) := by
  unfold fm_constants at h
  obtain ⟨D, rfl⟩ : ∃ D', D = D' + 1 := ⟨D - 1, by omega⟩
  have hD : 0 ≤ D := by omega
  refine am_call_run (by decide) (by decide) rfl (Nat.le_of_ble_eq_true rfl) (by decide) (L := [(0, .ref 19)]) rfl ?_
  obtain ⟨gc, gb⟩ := G
  try dsimp only at h
  refine am_ev_st 5 (f' := (9, [(0, .ref 19)], [.int gc], (W9 N C E F P Q T (gc, gb) ((0 : Int32)) H B O J V Y Z O9), k, n)) (g := True ∧ True ∧ True ∧ True ∧ True ∧ True) (by with_unfolding_all rfl) ⟨trivial, trivial, trivial, trivial, trivial, trivial⟩ ?_
  cases h
  exact am_ev_ret 0 0 0 rfl .int rfl rfl rfl
def fm_hasBody (G : cG) (U : cU) (p1 : Int32) : Option (Bool × cU) :=
  if p1 < 0 then
  (some (false, ((0 : Int32))))
  else
  match G with
  | (gc, gb) =>
  if gc ≤ p1 then
  (some (false, ((0 : Int32))))
  else
  if (p1 < 0 ∨ 16 ≤ (p1).toNatClampNeg) then none else
  if (gb (p1).toNatClampNeg) = 0 then
  (some (false, ((0 : Int32))))
  else
  some (true, ((0 : Int32)))
set_option maxHeartbeats 4000000 in
set_option maxRecDepth 100000 in
theorem ok_fm_hasBody  {N : cN} {C : cC} {E : cE} {F : cF} {P : cP} {Q : cQ} {T : cT} {G : cG} {U : cU} {H : cH} {B : cB} {O : cO} {J : cJ} {V : cV} {Y : cY} {Z : cZ} {O9 : cO9} {k n : Nat} {p1 : Int32} {rv : Bool} {U' : cU} (h : fm_hasBody G U p1 = some (rv, U')) (D : Nat) (hD : 1 ≤ D) : am_Call D 119 [.ref 19, .int p1] (W9 N C E F P Q T G U H B O J V Y Z O9) k n (.inl (some (.int (am_bz rv))), W9 N C E F P Q T G U' H B O J V Y Z O9, k, n) := by
  unfold fm_hasBody at h
  obtain ⟨D, rfl⟩ : ∃ D', D = D' + 1 := ⟨D - 1, by omega⟩
  have hD : 0 ≤ D := by omega
  refine am_call_run (by decide) (by decide) rfl (Nat.le_of_ble_eq_true rfl) (by decide) (L := [(0, .ref 19), (1, .int p1)]) rfl ?_
  refine am_ev_st 5 (f' := am_br (p1 < 0) 30 6 [(0, .ref 19), (1, .int p1)] [] (W9 N C E F P Q T G ((0 : Int32)) H B O J V Y Z O9) k n) (g := True ∧ True ∧ True ∧ True ∧ True ∧ True) (by with_unfolding_all rfl) ⟨trivial, trivial, trivial, trivial, trivial, trivial⟩ ?_
  by_cases c1 : p1 < 0
  · rw [if_pos c1] at h
    refine am_ev_pos c1 ?_
    refine am_ev_st 1 (f' := (31, [(0, .ref 19), (1, .int p1)], [.int (0 : Int32)], (W9 N C E F P Q T G ((0 : Int32)) H B O J V Y Z O9), k, n)) (g := True ∧ True) (by with_unfolding_all rfl) ⟨trivial, trivial⟩ ?_
    cases h
    exact am_ev_ret 0 0 0 rfl .boolean rfl am_n0 rfl
  · rw [if_neg c1] at h
    refine am_ev_neg c1 ?_
    obtain ⟨gc, gb⟩ := G
    try dsimp only at h
    refine am_ev_st 4 (f' := am_br (gc ≤ p1) 30 14 [(0, .ref 19), (1, .int p1)] [] (W9 N C E F P Q T (gc, gb) ((0 : Int32)) H B O J V Y Z O9) k n) (g := True ∧ True ∧ True ∧ True ∧ True) (by with_unfolding_all rfl) ⟨trivial, trivial, trivial, trivial, trivial⟩ ?_
    by_cases c2 : gc ≤ p1
    · rw [if_pos c2] at h
      refine am_ev_pos c2 ?_
      refine am_ev_st 1 (f' := (31, [(0, .ref 19), (1, .int p1)], [.int (0 : Int32)], (W9 N C E F P Q T (gc, gb) ((0 : Int32)) H B O J V Y Z O9), k, n)) (g := True ∧ True) (by with_unfolding_all rfl) ⟨trivial, trivial⟩ ?_
      cases h
      exact am_ev_ret 0 0 0 rfl .boolean rfl am_n0 rfl
    · rw [if_neg c2] at h
      refine am_ev_neg c2 ?_
      by_cases g3 : (p1 < 0 ∨ 16 ≤ (p1).toNatClampNeg)
      · rw [if_pos g3] at h; cases h
      rw [if_neg g3] at h
      refine am_ev_st 5 (f' := am_br ((gb (p1).toNatClampNeg) = 0) 30 23 [(0, .ref 19), (1, .int p1)] [] (W9 N C E F P Q T (gc, gb) ((0 : Int32)) H B O J V Y Z O9) k n) (g := True ∧ True ∧ True ∧ vp_in (p1) 16 ∧ True ∧ True) (by with_unfolding_all rfl) ⟨trivial, trivial, trivial, g3, trivial, trivial⟩ ?_
      by_cases c4 : (gb (p1).toNatClampNeg) = 0
      · rw [if_pos c4] at h
        refine am_ev_pos c4 ?_
        refine am_ev_st 1 (f' := (31, [(0, .ref 19), (1, .int p1)], [.int (0 : Int32)], (W9 N C E F P Q T (gc, gb) ((0 : Int32)) H B O J V Y Z O9), k, n)) (g := True ∧ True) (by with_unfolding_all rfl) ⟨trivial, trivial⟩ ?_
        cases h
        exact am_ev_ret 0 0 0 rfl .boolean rfl am_n0 rfl
      · rw [if_neg c4] at h
        refine am_ev_neg c4 ?_
        refine am_ev_st 2 (f' := (31, [(0, .ref 19), (1, .int p1)], [.int (1 : Int32)], (W9 N C E F P Q T (gc, gb) ((0 : Int32)) H B O J V Y Z O9), k, n)) (g := True ∧ True ∧ True) (by with_unfolding_all rfl) ⟨trivial, trivial, trivial⟩ ?_
        cases h
        exact am_ev_ret 0 0 0 rfl .boolean rfl am_n1 rfl
def fm_typeOf (fl : Nat) (G : cG) (U : cU) (H : cH) (B : cB) (p1 : Int32) : Option (Int32 × cU × cH × cB) :=
  if p1 < 0 then
  (some ((-1 : Int32), ((0 : Int32)), H, B))
  else
  match G with
  | (gc, gb) =>
  if p1 < gc then
  ((fm_setResult fl H B ((64 : Int32) + p1)).bind fun z3 =>
  match z3 with
  | (r3, H_3, B_3) =>
  some (r3, ((0 : Int32)), H_3, B_3))
  else
  some ((-1 : Int32), ((0 : Int32)), H, B)
set_option maxHeartbeats 4000000 in
set_option maxRecDepth 100000 in
theorem ok_fm_typeOf {fl : Nat} {N : cN} {C : cC} {E : cE} {F : cF} {P : cP} {Q : cQ} {T : cT} {G : cG} {U : cU} {H : cH} {B : cB} {O : cO} {J : cJ} {V : cV} {Y : cY} {Z : cZ} {O9 : cO9} {k n : Nat} {p1 : Int32} {rv : Int32} {U' : cU} {H' : cH} {B' : cB} (h : fm_typeOf fl G U H B p1 = some (rv, U', H', B')) (D : Nat) (hD : 4 ≤ D) : am_Call D 120 [.ref 19, .int p1] (W9 N C E F P Q T G U H B O J V Y Z O9) k n (.inl (some (.int rv)), W9 N C E F P Q T G U' H' B' O J V Y Z O9, k, n) := by
  unfold fm_typeOf at h
  obtain ⟨D, rfl⟩ : ∃ D', D = D' + 1 := ⟨D - 1, by omega⟩
  have hD : 3 ≤ D := by omega
  refine am_call_run (by decide) (by decide) rfl (Nat.le_of_ble_eq_true rfl) (by decide) (L := [(0, .ref 19), (1, .int p1)]) rfl ?_
  refine am_ev_st 5 (f' := am_br (p1 < 0) 17 6 [(0, .ref 19), (1, .int p1)] [] (W9 N C E F P Q T G ((0 : Int32)) H B O J V Y Z O9) k n) (g := True ∧ True ∧ True ∧ True ∧ True ∧ True) (by with_unfolding_all rfl) ⟨trivial, trivial, trivial, trivial, trivial, trivial⟩ ?_
  by_cases c1 : p1 < 0
  · rw [if_pos c1] at h
    refine am_ev_pos c1 ?_
    refine am_ev_st 2 (f' := (29, [(0, .ref 19), (1, .int p1)], [.int (-1 : Int32)], (W9 N C E F P Q T G ((0 : Int32)) H B O J V Y Z O9), k, n)) (g := True ∧ True ∧ True) (by with_unfolding_all rfl) ⟨trivial, trivial, trivial⟩ ?_
    cases h
    exact am_ev_ret 0 0 0 rfl .int rfl rfl rfl
  · rw [if_neg c1] at h
    refine am_ev_neg c1 ?_
    obtain ⟨gc, gb⟩ := G
    try dsimp only at h
    refine am_ev_st 4 (f' := am_br (p1 < gc) 21 14 [(0, .ref 19), (1, .int p1)] [] (W9 N C E F P Q T (gc, gb) ((0 : Int32)) H B O J V Y Z O9) k n) (g := True ∧ True ∧ True ∧ True ∧ True) (by with_unfolding_all rfl) ⟨trivial, trivial, trivial, trivial, trivial⟩ ?_
    by_cases c2 : p1 < gc
    · rw [if_pos c2] at h
      refine am_ev_pos c2 ?_
      refine am_ev_st 4 (f' := (26, [(0, .ref 19), (1, .int p1)], [.int ((64 : Int32) + p1), .ref 19], (W9 N C E F P Q T (gc, gb) ((0 : Int32)) H B O J V Y Z O9), k, n)) (g := True ∧ True ∧ True ∧ True ∧ True) (by with_unfolding_all rfl) ⟨trivial, trivial, trivial, trivial, trivial⟩ ?_
      replace h := Option.bind_eq_some_iff.mp h
      obtain ⟨⟨r3, H_3, B_3⟩, hc3, h⟩ := h
      try dsimp only at h
      refine am_ev_call (.invokevirtual 209) 111 2 913 [.ref 19, .int ((64 : Int32) + p1)] [] rfl rfl rfl rfl (ok_fm_setResult hc3 D (by omega)) rfl ?_
      cases h
      exact am_ev_ret 0 0 0 rfl .int rfl rfl rfl
    · rw [if_neg c2] at h
      refine am_ev_neg c2 ?_
      refine am_ev_st 2 (f' := (29, [(0, .ref 19), (1, .int p1)], [.int (-1 : Int32)], (W9 N C E F P Q T (gc, gb) ((0 : Int32)) H B O J V Y Z O9), k, n)) (g := True ∧ True ∧ True) (by with_unfolding_all rfl) ⟨trivial, trivial, trivial⟩ ?_
      cases h
      exact am_ev_ret 0 0 0 rfl .int rfl rfl rfl
def fm_mark (U : cU) (H : cH) (B : cB) (p1 : Int32) : Option (Int32 × cU) :=
  if H = 0 then
  (some ((-1 : Int32), ((0 : Int32))))
  else
  if p1 < 0 then
  (some ((-1 : Int32), ((0 : Int32))))
  else
  match B with
  | (br, bl) =>
  if ((2 : Int32) < 0 ∨ 96 ≤ ((2 : Int32)).toNatClampNeg) then none else
  if p1 < (bl ((2 : Int32)).toNatClampNeg) then
  ((fm_at B (2 : Int32) p1).bind fun z5 =>
  match z5 with
  | (r5) =>
  some (r5, ((0 : Int32))))
  else
  some ((-1 : Int32), ((0 : Int32)))
set_option maxHeartbeats 4000000 in
set_option maxRecDepth 100000 in
theorem ok_fm_mark  {N : cN} {C : cC} {E : cE} {F : cF} {P : cP} {Q : cQ} {T : cT} {G : cG} {U : cU} {H : cH} {B : cB} {O : cO} {J : cJ} {V : cV} {Y : cY} {Z : cZ} {O9 : cO9} {k n : Nat} {p1 : Int32} {rv : Int32} {U' : cU} (h : fm_mark U H B p1 = some (rv, U')) (D : Nat) (hD : 2 ≤ D) : am_Call D 121 [.ref 19, .int p1] (W9 N C E F P Q T G U H B O J V Y Z O9) k n (.inl (some (.int rv)), W9 N C E F P Q T G U' H B O J V Y Z O9, k, n) := by
  unfold fm_mark at h
  obtain ⟨D, rfl⟩ : ∃ D', D = D' + 1 := ⟨D - 1, by omega⟩
  have hD : 1 ≤ D := by omega
  refine am_call_run (by decide) (by decide) rfl (Nat.le_of_ble_eq_true rfl) (by decide) (L := [(0, .ref 19), (1, .int p1)]) rfl ?_
  refine am_ev_st 6 (f' := am_br (H = 0) 26 9 [(0, .ref 19), (1, .int p1)] [] (W9 N C E F P Q T G ((0 : Int32)) H B O J V Y Z O9) k n) (g := True ∧ True ∧ True ∧ True ∧ True ∧ True ∧ True) (by with_unfolding_all rfl) ⟨trivial, trivial, trivial, trivial, trivial, trivial, trivial⟩ ?_
  by_cases c1 : H = 0
  · rw [if_pos c1] at h
    refine am_ev_pos c1 ?_
    refine am_ev_st 2 (f' := (36, [(0, .ref 19), (1, .int p1)], [.int (-1 : Int32)], (W9 N C E F P Q T G ((0 : Int32)) H B O J V Y Z O9), k, n)) (g := True ∧ True ∧ True) (by with_unfolding_all rfl) ⟨trivial, trivial, trivial⟩ ?_
    cases h
    exact am_ev_ret 0 0 0 rfl .int rfl rfl rfl
  · rw [if_neg c1] at h
    refine am_ev_neg c1 ?_
    refine am_ev_st 2 (f' := am_br (p1 < 0) 26 13 [(0, .ref 19), (1, .int p1)] [] (W9 N C E F P Q T G ((0 : Int32)) H B O J V Y Z O9) k n) (g := True ∧ True ∧ True) (by with_unfolding_all rfl) ⟨trivial, trivial, trivial⟩ ?_
    by_cases c2 : p1 < 0
    · rw [if_pos c2] at h
      refine am_ev_pos c2 ?_
      refine am_ev_st 2 (f' := (36, [(0, .ref 19), (1, .int p1)], [.int (-1 : Int32)], (W9 N C E F P Q T G ((0 : Int32)) H B O J V Y Z O9), k, n)) (g := True ∧ True ∧ True) (by with_unfolding_all rfl) ⟨trivial, trivial, trivial⟩ ?_
      cases h
      exact am_ev_ret 0 0 0 rfl .int rfl rfl rfl
    · rw [if_neg c2] at h
      refine am_ev_neg c2 ?_
      obtain ⟨br, bl⟩ := B
      try dsimp only at h
      by_cases g3 : ((2 : Int32) < 0 ∨ 96 ≤ ((2 : Int32)).toNatClampNeg)
      · rw [if_pos g3] at h; cases h
      rw [if_neg g3] at h
      refine am_ev_st 6 (f' := am_br (p1 < (bl ((2 : Int32)).toNatClampNeg)) 30 23 [(0, .ref 19), (1, .int p1)] [] (W9 N C E F P Q T G ((0 : Int32)) H (br, bl) O J V Y Z O9) k n) (g := True ∧ True ∧ True ∧ True ∧ vp_in ((2 : Int32)) 96 ∧ True ∧ True) (by with_unfolding_all rfl) ⟨trivial, trivial, trivial, trivial, g3, trivial, trivial⟩ ?_
      by_cases c4 : p1 < (bl ((2 : Int32)).toNatClampNeg)
      · rw [if_pos c4] at h
        refine am_ev_pos c4 ?_
        refine am_ev_st 3 (f' := (33, [(0, .ref 19), (1, .int p1)], [.int p1, .int (2 : Int32), .ref 19], (W9 N C E F P Q T G ((0 : Int32)) H (br, bl) O J V Y Z O9), k, n)) (g := True ∧ True ∧ True ∧ True) (by with_unfolding_all rfl) ⟨trivial, trivial, trivial, trivial⟩ ?_
        replace h := Option.bind_eq_some_iff.mp h
        obtain ⟨r5, hc5, h⟩ := h
        try dsimp only at h
        refine am_ev_call (.invokevirtual 69) 81 4 820 [.ref 19, .int (2 : Int32), .int p1] [] rfl rfl rfl rfl (ok_fm_at hc5 D (by omega)) rfl ?_
        cases h
        exact am_ev_ret 0 0 0 rfl .int rfl rfl rfl
      · rw [if_neg c4] at h
        refine am_ev_neg c4 ?_
        refine am_ev_st 2 (f' := (36, [(0, .ref 19), (1, .int p1)], [.int (-1 : Int32)], (W9 N C E F P Q T G ((0 : Int32)) H (br, bl) O J V Y Z O9), k, n)) (g := True ∧ True ∧ True) (by with_unfolding_all rfl) ⟨trivial, trivial, trivial⟩ ?_
        cases h
        exact am_ev_ret 0 0 0 rfl .int rfl rfl rfl
def lp_fm_find_3 (fl : Nat) : Nat → cT → cG → cU → Int32 → Int32 → Int32 → Int32 → Option (Int32 × cT × cU)
  | 0, _, _, _, _, _, _, _ => none
  | w + 1, T, G, U, v1, v2, v3, v4 =>
    match T with
    | (te, tk, ta, tb, tn, td) =>
    if te ≤ v4 then
    ((fm_make T G U v1 v2 v3).bind fun z2 =>
    match z2 with
    | (r2, T_2, U_2) =>
    some (r2, T_2, U_2))
    else
    if (v4 < 0 ∨ 120 ≤ (v4).toNatClampNeg) then none else
    if (tk (v4).toNatClampNeg) ≠ v1 then
    (lp_fm_find_3 fl w T G U v1 v2 v3 (v4 + (1 : Int32)))
    else
    if (v4 < 0 ∨ 120 ≤ (v4).toNatClampNeg) then none else
    if (ta (v4).toNatClampNeg) ≠ v2 then
    (lp_fm_find_3 fl w T G U v1 v2 v3 (v4 + (1 : Int32)))
    else
    if (v4 < 0 ∨ 120 ≤ (v4).toNatClampNeg) then none else
    if (tb (v4).toNatClampNeg) ≠ v3 then
    (lp_fm_find_3 fl w T G U v1 v2 v3 (v4 + (1 : Int32)))
    else
    some (v4, T, U)
def fm_find (fl : Nat) (T : cT) (G : cG) (U : cU) (p1 p2 p3 : Int32) : Option (Int32 × cT × cU) :=
  lp_fm_find_3 fl fl T G U p1 p2 p3 (0 : Int32)
set_option maxHeartbeats 4000000 in
set_option maxRecDepth 100000 in
theorem ok_lp_fm_find_3 {fl : Nat} : ∀ {w : Nat} {N : cN} {C : cC} {E : cE} {F : cF} {P : cP} {Q : cQ} {T : cT} {G : cG} {U : cU} {H : cH} {B : cB} {O : cO} {J : cJ} {V : cV} {Y : cY} {Z : cZ} {O9 : cO9} {k n : Nat} {v1 : Int32} {v2 : Int32} {v3 : Int32} {v4 : Int32} {rv : Int32} {T' : cT} {U' : cU} (h : lp_fm_find_3 fl w T G U v1 v2 v3 v4 = some (rv, T', U')) (D : Nat) (hD : 1 ≤ D), am_Ev D 122 0 (fun _ => 0) (3, [(0, .ref 19), (1, .int v1), (2, .int v2), (3, .int v3), (4, .int v4)], [], (W9 N C E F P Q T G U H B O J V Y Z O9), k, n) (.inl (some (.int rv)), W9 N C E F P Q T' G U' H B O J V Y Z O9, k, n) := by
  intro w
  induction w with
  | zero => intros; rename_i h _ _; cases h
  | succ w ih0 =>
    intro N C E F P Q T G U H B O J V Y Z O9 k n v1 v2 v3 v4 rv T' U' h D hD
    have ih := fun {N} {C} {E} {F} {P} {Q} {T} {G} {U} {H} {B} {O} {J} {V} {Y} {Z} {O9} {k} {n} {v1} {v2} {v3} {v4} {rv} {T'} {U'} h => @ih0 N C E F P Q T G U H B O J V Y Z O9 k n v1 v2 v3 v4 rv T' U' h D hD
    unfold lp_fm_find_3 at h
    obtain ⟨te, tk, ta, tb, tn, td⟩ := T
    try dsimp only at h
    refine am_ev_st 4 (f' := am_br (te ≤ v4) 54 9 [(0, .ref 19), (1, .int v1), (2, .int v2), (3, .int v3), (4, .int v4)] [] (W9 N C E F P Q (te, tk, ta, tb, tn, td) G U H B O J V Y Z O9) k n) (g := True ∧ True ∧ True ∧ True ∧ True) (by with_unfolding_all rfl) ⟨trivial, trivial, trivial, trivial, trivial⟩ ?_
    by_cases c1 : te ≤ v4
    · rw [if_pos c1] at h
      refine am_ev_pos c1 ?_
      refine am_ev_st 4 (f' := (58, [(0, .ref 19), (1, .int v1), (2, .int v2), (3, .int v3), (4, .int v4)], [.int v3, .int v2, .int v1, .ref 19], (W9 N C E F P Q (te, tk, ta, tb, tn, td) G U H B O J V Y Z O9), k, n)) (g := True ∧ True ∧ True ∧ True ∧ True) (by with_unfolding_all rfl) ⟨trivial, trivial, trivial, trivial, trivial⟩ ?_
      replace h := Option.bind_eq_some_iff.mp h
      obtain ⟨⟨r2, T_2, U_2⟩, hc2, h⟩ := h
      try dsimp only at h
      refine am_ev_call (.invokevirtual 215) 105 6 965 [.ref 19, .int v1, .int v2, .int v3] [] rfl rfl rfl rfl (ok_fm_make hc2 D (by omega)) rfl ?_
      cases h
      exact am_ev_ret 0 0 0 rfl .int rfl rfl rfl
    · rw [if_neg c1] at h
      refine am_ev_neg c1 ?_
      by_cases g3 : (v4 < 0 ∨ 120 ≤ (v4).toNatClampNeg)
      · rw [if_pos g3] at h; cases h
      rw [if_neg g3] at h
      refine am_ev_st 6 (f' := am_br ((tk (v4).toNatClampNeg) ≠ v1) 48 20 [(0, .ref 19), (1, .int v1), (2, .int v2), (3, .int v3), (4, .int v4)] [] (W9 N C E F P Q (te, tk, ta, tb, tn, td) G U H B O J V Y Z O9) k n) (g := True ∧ True ∧ True ∧ vp_in (v4) 120 ∧ True ∧ True ∧ True) (by with_unfolding_all rfl) ⟨trivial, trivial, trivial, g3, trivial, trivial, trivial⟩ ?_
      by_cases c4 : (tk (v4).toNatClampNeg) ≠ v1
      · rw [if_pos c4] at h
        refine am_ev_pos c4 ?_
        refine am_ev_st 2 (f' := (3, [(4, .int (v4 + (1 : Int32))), (0, .ref 19), (1, .int v1), (2, .int v2), (3, .int v3)], [], (W9 N C E F P Q (te, tk, ta, tb, tn, td) G U H B O J V Y Z O9), k, n)) (g := True ∧ True ∧ True) (by with_unfolding_all rfl) ⟨trivial, trivial, trivial⟩ ?_
        refine am_ev_drop [1, 2, 3, 4, 0] rfl rfl ?_
        exact ih h
      · rw [if_neg c4] at h
        refine am_ev_neg c4 ?_
        by_cases g5 : (v4 < 0 ∨ 120 ≤ (v4).toNatClampNeg)
        · rw [if_pos g5] at h; cases h
        rw [if_neg g5] at h
        refine am_ev_st 6 (f' := am_br ((ta (v4).toNatClampNeg) ≠ v2) 48 31 [(0, .ref 19), (1, .int v1), (2, .int v2), (3, .int v3), (4, .int v4)] [] (W9 N C E F P Q (te, tk, ta, tb, tn, td) G U H B O J V Y Z O9) k n) (g := True ∧ True ∧ True ∧ vp_in (v4) 120 ∧ True ∧ True ∧ True) (by with_unfolding_all rfl) ⟨trivial, trivial, trivial, g5, trivial, trivial, trivial⟩ ?_
        by_cases c6 : (ta (v4).toNatClampNeg) ≠ v2
        · rw [if_pos c6] at h
          refine am_ev_pos c6 ?_
          refine am_ev_st 2 (f' := (3, [(4, .int (v4 + (1 : Int32))), (0, .ref 19), (1, .int v1), (2, .int v2), (3, .int v3)], [], (W9 N C E F P Q (te, tk, ta, tb, tn, td) G U H B O J V Y Z O9), k, n)) (g := True ∧ True ∧ True) (by with_unfolding_all rfl) ⟨trivial, trivial, trivial⟩ ?_
          refine am_ev_drop [1, 2, 3, 4, 0] rfl rfl ?_
          exact ih h
        · rw [if_neg c6] at h
          refine am_ev_neg c6 ?_
          by_cases g7 : (v4 < 0 ∨ 120 ≤ (v4).toNatClampNeg)
          · rw [if_pos g7] at h; cases h
          rw [if_neg g7] at h
          refine am_ev_st 6 (f' := am_br ((tb (v4).toNatClampNeg) ≠ v3) 48 42 [(0, .ref 19), (1, .int v1), (2, .int v2), (3, .int v3), (4, .int v4)] [] (W9 N C E F P Q (te, tk, ta, tb, tn, td) G U H B O J V Y Z O9) k n) (g := True ∧ True ∧ True ∧ vp_in (v4) 120 ∧ True ∧ True ∧ True) (by with_unfolding_all rfl) ⟨trivial, trivial, trivial, g7, trivial, trivial, trivial⟩ ?_
          by_cases c8 : (tb (v4).toNatClampNeg) ≠ v3
          · rw [if_pos c8] at h
            refine am_ev_pos c8 ?_
            refine am_ev_st 2 (f' := (3, [(4, .int (v4 + (1 : Int32))), (0, .ref 19), (1, .int v1), (2, .int v2), (3, .int v3)], [], (W9 N C E F P Q (te, tk, ta, tb, tn, td) G U H B O J V Y Z O9), k, n)) (g := True ∧ True ∧ True) (by with_unfolding_all rfl) ⟨trivial, trivial, trivial⟩ ?_
            refine am_ev_drop [1, 2, 3, 4, 0] rfl rfl ?_
            exact ih h
          · rw [if_neg c8] at h
            refine am_ev_neg c8 ?_
            refine am_ev_st 1 (f' := (47, [(0, .ref 19), (1, .int v1), (2, .int v2), (3, .int v3), (4, .int v4)], [.int v4], (W9 N C E F P Q (te, tk, ta, tb, tn, td) G U H B O J V Y Z O9), k, n)) (g := True ∧ True) (by with_unfolding_all rfl) ⟨trivial, trivial⟩ ?_
            cases h
            exact am_ev_ret 0 0 0 rfl .int rfl rfl rfl
set_option maxHeartbeats 4000000 in
set_option maxRecDepth 100000 in
theorem ok_fm_find {fl : Nat} {N : cN} {C : cC} {E : cE} {F : cF} {P : cP} {Q : cQ} {T : cT} {G : cG} {U : cU} {H : cH} {B : cB} {O : cO} {J : cJ} {V : cV} {Y : cY} {Z : cZ} {O9 : cO9} {k n : Nat} {p1 p2 p3 : Int32} {rv : Int32} {T' : cT} {U' : cU} (h : fm_find fl T G U p1 p2 p3 = some (rv, T', U')) (D : Nat) (hD : 2 ≤ D) : am_Call D 122 [.ref 19, .int p1, .int p2, .int p3] (W9 N C E F P Q T G U H B O J V Y Z O9) k n (.inl (some (.int rv)), W9 N C E F P Q T' G U' H B O J V Y Z O9, k, n) := by
  unfold fm_find at h
  obtain ⟨D, rfl⟩ : ∃ D', D = D' + 1 := ⟨D - 1, by omega⟩
  have hD : 1 ≤ D := by omega
  refine am_call_run (by decide) (by decide) rfl (Nat.le_of_ble_eq_true rfl) (by decide) (L := [(0, .ref 19), (1, .int p1), (2, .int p2), (3, .int p3)]) rfl ?_
  refine am_ev_st 2 (f' := (3, [(4, .int (0 : Int32)), (0, .ref 19), (1, .int p1), (2, .int p2), (3, .int p3)], [], (W9 N C E F P Q T G U H B O J V Y Z O9), k, n)) (g := True ∧ True ∧ True) (by with_unfolding_all rfl) ⟨trivial, trivial, trivial⟩ ?_
  refine am_ev_drop [1, 2, 3, 4, 0] rfl rfl ?_
  exact ok_lp_fm_find_3 h D hD
def lp_fm_keep_91 (fl : Nat) : Nat → cT → cG → cU → cH → cB → cJ → Int32 → Int32 → Int32 → Int32 → Int32 → Option (cT × cU × cJ × Int32 × Int32 × Int32 × Int32 × Int32)
  | 0, _, _, _, _, _, _, _, _, _, _, _ => none
  | w + 1, T, G, U, H, B, J, v1, v2, v3, v4, v5 =>
    if v3 < 0 then
    (some (T, U, J, v1, v2, v3, v4, v5))
    else
    if v2 ≤ 0 then
    (some (T, U, J, v1, v2, v3, v4, v5))
    else
    match J with
    | (jp, ji) =>
    if ((v2 - (1 : Int32)) < 0 ∨ 130 ≤ ((v2 - (1 : Int32))).toNatClampNeg) then none else
    if (ji ((v2 - (1 : Int32))).toNatClampNeg) < 0 then
    (some (T, U, J, v1, v2, v3, v4, v5))
    else
    if ((v2 + (-1 : Int32)) < 0 ∨ 130 ≤ ((v2 + (-1 : Int32))).toNatClampNeg) then none else
    if ((v2 + (-1 : Int32)) < 0 ∨ 130 ≤ ((v2 + (-1 : Int32))).toNatClampNeg) then none else
    (fm_find fl T G U (jp ((v2 + (-1 : Int32))).toNatClampNeg) (ji ((v2 + (-1 : Int32))).toNatClampNeg) v3).bind fun z15 =>
    match z15 with
    | (r15, T_15, U_15) =>
    lp_fm_keep_91 fl w T_15 G U_15 H B J v1 (v2 + (-1 : Int32)) r15 v4 v5
def lp_fm_keep_26 (fl : Nat) : Nat → cT → cG → cU → cH → cB → cJ → Int32 → Int32 → Int32 → Int32 → Option (Int32 × cT × cU × cJ)
  | 0, _, _, _, _, _, _, _, _, _, _ => none
  | w + 1, T, G, U, H, B, J, v1, v2, v3, v4 =>
    match B with
    | (br, bl) =>
    if ((2 : Int32) < 0 ∨ 96 ≤ ((2 : Int32)).toNatClampNeg) then none else
    if (bl ((2 : Int32)).toNatClampNeg) ≤ v4 then
    (some (v3, T, U, J))
    else
    (fm_at B (2 : Int32) v4).bind fun z4 =>
    match z4 with
    | (r4) =>
    (fm_hasParts r4).bind fun z5 =>
    match z5 with
    | (r5) =>
    if (am_bz r5) = 0 then
    ((fm_kindOf r4).bind fun z7 =>
    match z7 with
    | (r7) =>
    (fm_find fl T G U r7 (r4 / (10 : Int32)) (-1 : Int32)).bind fun z8 =>
    match z8 with
    | (r8, T_8, U_8) =>
    (lp_fm_keep_91 fl fl T_8 G U_8 H B J v1 v2 r8 v4 r4).bind fun z16 =>
    match z16 with
    | (T_16, U_16, J_16, v1_16, v2_16, v3_16, v4_16, v5_16) =>
    if 0 ≤ v3_16 then
    (if v2_16 ≤ 0 then
    (lp_fm_keep_26 fl w T_16 G U_16 H B J_16 v1_16 v2_16 v3_16 (v4_16 + (1 : Int32)))
    else
    match J_16 with
    | (jp_16, ji_16) =>
    if ((v2_16 - (1 : Int32)) < 0 ∨ 130 ≤ ((v2_16 - (1 : Int32))).toNatClampNeg) then none else
    lp_fm_keep_26 fl w T_16 G U_16 H B (jp_16, (upd ji_16 ((v2_16 - (1 : Int32))).toNatClampNeg v3_16)) v1_16 v2_16 v3_16 (v4_16 + (1 : Int32)))
    else
    match T_16 with
    | (te_16, tk_16, ta_16, tb_16, tn_16, td_16) =>
    some ((-1 : Int32), (v1_16, tk_16, ta_16, tb_16, tn_16, td_16), U_16, J_16))
    else
    match J with
    | (jp, ji) =>
    if (v2 < 0 ∨ 130 ≤ (v2).toNatClampNeg) then none else
    if (v2 < 0 ∨ 130 ≤ (v2).toNatClampNeg) then none else
    lp_fm_keep_26 fl w T G U H B ((upd jp (v2).toNatClampNeg r4), (upd ji (v2).toNatClampNeg (-1 : Int32))) v1 (v2 + (1 : Int32)) v3 (v4 + (1 : Int32))
def fm_keep (fl : Nat) (T : cT) (G : cG) (U : cU) (H : cH) (B : cB) (J : cJ) : Option (Int32 × cT × cU × cJ) :=
  if H ≠ 0 then
  (match T with
  | (te, tk, ta, tb, tn, td) =>
  lp_fm_keep_26 fl fl T G ((0 : Int32)) H B J te (0 : Int32) (-1 : Int32) (0 : Int32))
  else
  some ((-1 : Int32), T, ((0 : Int32)), J)
set_option maxHeartbeats 4000000 in
set_option maxRecDepth 100000 in
theorem ok_lp_fm_keep_91 {fl : Nat} : ∀ {w : Nat} {N : cN} {C : cC} {E : cE} {F : cF} {P : cP} {Q : cQ} {T : cT} {G : cG} {U : cU} {H : cH} {B : cB} {O : cO} {J : cJ} {V : cV} {Y : cY} {Z : cZ} {O9 : cO9} {k n : Nat} {v1 : Int32} {v2 : Int32} {v3 : Int32} {v4 : Int32} {v5 : Int32} {T' : cT} {U' : cU} {J' : cJ} {v1' : Int32} {v2' : Int32} {v3' : Int32} {v4' : Int32} {v5' : Int32} {r : am_R} (h : lp_fm_keep_91 fl w T G U H B J v1 v2 v3 v4 v5 = some (T', U', J', v1', v2', v3', v4', v5')) (D : Nat) (hD : 2 ≤ D) (hk : am_Ev D 123 0 (fun _ => 0) (134, [(0, .ref 19), (1, .int (v1')), (2, .int (v2')), (3, .int (v3')), (4, .int (v4')), (5, .int (v5'))], [], (W9 N C E F P Q T' G (U') H B O J' V Y Z O9), k, n) r), am_Ev D 123 0 (fun _ => 0) (91, [(0, .ref 19), (1, .int v1), (2, .int v2), (3, .int v3), (4, .int v4), (5, .int v5)], [], (W9 N C E F P Q T G U H B O J V Y Z O9), k, n) r := by
  intro w
  induction w with
  | zero => intros; rename_i h _ _ _; cases h
  | succ w ih0 =>
    intro N C E F P Q T G U H B O J V Y Z O9 k n v1 v2 v3 v4 v5 T' U' J' v1' v2' v3' v4' v5' r h D hD hk
    have ih := fun {N} {C} {E} {F} {P} {Q} {T} {G} {U} {H} {B} {O} {J} {V} {Y} {Z} {O9} {k} {n} {v1} {v2} {v3} {v4} {v5} {T'} {U'} {J'} {v1'} {v2'} {v3'} {v4'} {v5'} {r} h hk => @ih0 N C E F P Q T G U H B O J V Y Z O9 k n v1 v2 v3 v4 v5 T' U' J' v1' v2' v3' v4' v5' r h D hD hk
    unfold lp_fm_keep_91 at h
    refine am_ev_st 2 (f' := am_br (v3 < 0) 134 92 [(0, .ref 19), (1, .int v1), (2, .int v2), (3, .int v3), (4, .int v4), (5, .int v5)] [] (W9 N C E F P Q T G U H B O J V Y Z O9) k n) (g := True ∧ True ∧ True) (by with_unfolding_all rfl) ⟨trivial, trivial, trivial⟩ ?_
    by_cases c9 : v3 < 0
    · rw [if_pos c9] at h
      refine am_ev_pos c9 ?_
      cases h
      exact hk
    · rw [if_neg c9] at h
      refine am_ev_neg c9 ?_
      refine am_ev_st 2 (f' := am_br (v2 ≤ 0) 134 96 [(0, .ref 19), (1, .int v1), (2, .int v2), (3, .int v3), (4, .int v4), (5, .int v5)] [] (W9 N C E F P Q T G U H B O J V Y Z O9) k n) (g := True ∧ True ∧ True) (by with_unfolding_all rfl) ⟨trivial, trivial, trivial⟩ ?_
      by_cases c10 : v2 ≤ 0
      · rw [if_pos c10] at h
        refine am_ev_pos c10 ?_
        cases h
        exact hk
      · rw [if_neg c10] at h
        refine am_ev_neg c10 ?_
        obtain ⟨jp, ji⟩ := J
        try dsimp only at h
        by_cases g11 : ((v2 - (1 : Int32)) < 0 ∨ 130 ≤ ((v2 - (1 : Int32))).toNatClampNeg)
        · rw [if_pos g11] at h; cases h
        rw [if_neg g11] at h
        refine am_ev_st 7 (f' := am_br ((ji ((v2 - (1 : Int32))).toNatClampNeg) < 0) 134 107 [(0, .ref 19), (1, .int v1), (2, .int v2), (3, .int v3), (4, .int v4), (5, .int v5)] [] (W9 N C E F P Q T G U H B O (jp, ji) V Y Z O9) k n) (g := True ∧ True ∧ True ∧ True ∧ True ∧ vp_in ((v2 - (1 : Int32))) 130 ∧ True ∧ True) (by with_unfolding_all rfl) ⟨trivial, trivial, trivial, trivial, trivial, g11, trivial, trivial⟩ ?_
        by_cases c12 : (ji ((v2 - (1 : Int32))).toNatClampNeg) < 0
        · rw [if_pos c12] at h
          refine am_ev_pos c12 ?_
          cases h
          exact hk
        · rw [if_neg c12] at h
          refine am_ev_neg c12 ?_
          by_cases g13 : ((v2 + (-1 : Int32)) < 0 ∨ 130 ≤ ((v2 + (-1 : Int32))).toNatClampNeg)
          · rw [if_pos g13] at h; cases h
          rw [if_neg g13] at h
          by_cases g14 : ((v2 + (-1 : Int32)) < 0 ∨ 130 ≤ ((v2 + (-1 : Int32))).toNatClampNeg)
          · rw [if_pos g14] at h; cases h
          rw [if_neg g14] at h
          refine am_ev_st 11 (f' := (127, [(2, .int (v2 + (-1 : Int32))), (0, .ref 19), (1, .int v1), (3, .int v3), (4, .int v4), (5, .int v5)], [.int v3, .int (ji ((v2 + (-1 : Int32))).toNatClampNeg), .int (jp ((v2 + (-1 : Int32))).toNatClampNeg), .ref 19], (W9 N C E F P Q T G U H B O (jp, ji) V Y Z O9), k, n)) (g := True ∧ True ∧ True ∧ True ∧ True ∧ vp_in ((v2 + (-1 : Int32))) 130 ∧ True ∧ True ∧ True ∧ vp_in ((v2 + (-1 : Int32))) 130 ∧ True ∧ True) (by with_unfolding_all rfl) ⟨trivial, trivial, trivial, trivial, trivial, g13, trivial, trivial, trivial, g14, trivial, trivial⟩ ?_
          replace h := Option.bind_eq_some_iff.mp h
          obtain ⟨⟨r15, T_15, U_15⟩, hc15, h⟩ := h
          try dsimp only at h
          refine am_ev_call (.invokevirtual 219) 122 6 961 [.ref 19, .int (jp ((v2 + (-1 : Int32))).toNatClampNeg), .int (ji ((v2 + (-1 : Int32))).toNatClampNeg), .int v3] [] rfl rfl rfl rfl (ok_fm_find hc15 D (by omega)) rfl ?_
          refine am_ev_st 2 (f' := (91, [(3, .int r15), (2, .int (v2 + (-1 : Int32))), (0, .ref 19), (1, .int v1), (4, .int v4), (5, .int v5)], [], (W9 N C E F P Q T_15 G U_15 H B O (jp, ji) V Y Z O9), k, n)) (g := True ∧ True ∧ True) (by with_unfolding_all rfl) ⟨trivial, trivial, trivial⟩ ?_
          refine am_ev_drop [2, 3, 1, 0, 4, 5] rfl rfl ?_
          exact ih h hk
set_option maxHeartbeats 4000000 in
set_option maxRecDepth 100000 in
theorem ok_lp_fm_keep_26 {fl : Nat} : ∀ {w : Nat} {N : cN} {C : cC} {E : cE} {F : cF} {P : cP} {Q : cQ} {T : cT} {G : cG} {U : cU} {H : cH} {B : cB} {O : cO} {J : cJ} {V : cV} {Y : cY} {Z : cZ} {O9 : cO9} {k n : Nat} {v1 : Int32} {v2 : Int32} {v3 : Int32} {v4 : Int32} {rv : Int32} {T' : cT} {U' : cU} {J' : cJ} (h : lp_fm_keep_26 fl w T G U H B J v1 v2 v3 v4 = some (rv, T', U', J')) (D : Nat) (hD : 2 ≤ D), am_Ev D 123 0 (fun _ => 0) (26, [(0, .ref 19), (1, .int v1), (2, .int v2), (3, .int v3), (4, .int v4)], [], (W9 N C E F P Q T G U H B O J V Y Z O9), k, n) (.inl (some (.int rv)), W9 N C E F P Q T' G U' H B O J' V Y Z O9, k, n) := by
  intro w
  induction w with
  | zero => intros; rename_i h _ _; cases h
  | succ w ih0 =>
    intro N C E F P Q T G U H B O J V Y Z O9 k n v1 v2 v3 v4 rv T' U' J' h D hD
    have ih := fun {N} {C} {E} {F} {P} {Q} {T} {G} {U} {H} {B} {O} {J} {V} {Y} {Z} {O9} {k} {n} {v1} {v2} {v3} {v4} {rv} {T'} {U'} {J'} h => @ih0 N C E F P Q T G U H B O J V Y Z O9 k n v1 v2 v3 v4 rv T' U' J' h D hD
    unfold lp_fm_keep_26 at h
    obtain ⟨br, bl⟩ := B
    try dsimp only at h
    by_cases g2 : ((2 : Int32) < 0 ∨ 96 ≤ ((2 : Int32)).toNatClampNeg)
    · rw [if_pos g2] at h; cases h
    rw [if_neg g2] at h
    refine am_ev_st 6 (f' := am_br ((bl ((2 : Int32)).toNatClampNeg) ≤ v4) 164 34 [(0, .ref 19), (1, .int v1), (2, .int v2), (3, .int v3), (4, .int v4)] [] (W9 N C E F P Q T G U H (br, bl) O J V Y Z O9) k n) (g := True ∧ True ∧ True ∧ True ∧ vp_in ((2 : Int32)) 96 ∧ True ∧ True) (by with_unfolding_all rfl) ⟨trivial, trivial, trivial, trivial, g2, trivial, trivial⟩ ?_
    by_cases c3 : (bl ((2 : Int32)).toNatClampNeg) ≤ v4
    · rw [if_pos c3] at h
      refine am_ev_pos c3 ?_
      refine am_ev_st 1 (f' := (165, [(0, .ref 19), (1, .int v1), (2, .int v2), (3, .int v3), (4, .int v4)], [.int v3], (W9 N C E F P Q T G U H (br, bl) O J V Y Z O9), k, n)) (g := True ∧ True) (by with_unfolding_all rfl) ⟨trivial, trivial⟩ ?_
      cases h
      exact am_ev_ret 0 0 0 rfl .int rfl rfl rfl
    · rw [if_neg c3] at h
      refine am_ev_neg c3 ?_
      refine am_ev_st 3 (f' := (41, [(0, .ref 19), (1, .int v1), (2, .int v2), (3, .int v3), (4, .int v4)], [.int v4, .int (2 : Int32), .ref 19], (W9 N C E F P Q T G U H (br, bl) O J V Y Z O9), k, n)) (g := True ∧ True ∧ True ∧ True) (by with_unfolding_all rfl) ⟨trivial, trivial, trivial, trivial⟩ ?_
      replace h := Option.bind_eq_some_iff.mp h
      obtain ⟨r4, hc4, h⟩ := h
      try dsimp only at h
      refine am_ev_call (.invokevirtual 69) 81 4 820 [.ref 19, .int (2 : Int32), .int v4] [] rfl rfl rfl rfl (ok_fm_at hc4 D (by omega)) rfl ?_
      refine am_ev_st 2 (f' := (48, [(5, .int r4), (0, .ref 19), (1, .int v1), (2, .int v2), (3, .int v3), (4, .int v4)], [.int r4], (W9 N C E F P Q T G U H (br, bl) O J V Y Z O9), k, n)) (g := True ∧ True ∧ True) (by with_unfolding_all rfl) ⟨trivial, trivial, trivial⟩ ?_
      replace h := Option.bind_eq_some_iff.mp h
      obtain ⟨r5, hc5, h⟩ := h
      try dsimp only at h
      refine am_ev_call (.invokestatic 73) 79 2 835 [.int r4] [] rfl rfl rfl rfl (ok_fm_hasParts hc5 D (by omega)) rfl ?_
      refine am_ev_st 1 (f' := am_br ((am_bz r5) = 0) 75 51 [(5, .int r4), (0, .ref 19), (1, .int v1), (2, .int v2), (3, .int v3), (4, .int v4)] [] (W9 N C E F P Q T G U H (br, bl) O J V Y Z O9) k n) (g := True ∧ True) (by with_unfolding_all rfl) ⟨trivial, trivial⟩ ?_
      by_cases c6 : (am_bz r5) = 0
      · rw [if_pos c6] at h
        refine am_ev_pos c6 ?_
        refine am_ev_st 2 (f' := (78, [(5, .int r4), (0, .ref 19), (1, .int v1), (2, .int v2), (3, .int v3), (4, .int v4)], [.int r4, .ref 19], (W9 N C E F P Q T G U H (br, bl) O J V Y Z O9), k, n)) (g := True ∧ True ∧ True) (by with_unfolding_all rfl) ⟨trivial, trivial, trivial⟩ ?_
        replace h := Option.bind_eq_some_iff.mp h
        obtain ⟨r7, hc7, h⟩ := h
        try dsimp only at h
        refine am_ev_call (.invokestatic 80) 78 2 824 [.int r4] [.ref 19] rfl rfl rfl rfl (ok_fm_kindOf hc7 D (by omega)) rfl ?_
        refine am_ev_st 4 (f' := (87, [(5, .int r4), (0, .ref 19), (1, .int v1), (2, .int v2), (3, .int v3), (4, .int v4)], [.int (-1 : Int32), .int (r4 / (10 : Int32)), .int r7, .ref 19], (W9 N C E F P Q T G U H (br, bl) O J V Y Z O9), k, n)) (g := True ∧ True ∧ ¬ ((10 : Int32) = 0) ∧ True ∧ True) (by with_unfolding_all rfl) ⟨trivial, trivial, by decide, trivial, trivial⟩ ?_
        replace h := Option.bind_eq_some_iff.mp h
        obtain ⟨⟨r8, T_8, U_8⟩, hc8, h⟩ := h
        try dsimp only at h
        refine am_ev_call (.invokevirtual 219) 122 6 961 [.ref 19, .int r7, .int (r4 / (10 : Int32)), .int (-1 : Int32)] [] rfl rfl rfl rfl (ok_fm_find hc8 D (by omega)) rfl ?_
        refine am_ev_st 1 (f' := (91, [(3, .int r8), (5, .int r4), (0, .ref 19), (1, .int v1), (2, .int v2), (4, .int v4)], [], (W9 N C E F P Q T_8 G U_8 H (br, bl) O J V Y Z O9), k, n)) (g := True ∧ True) (by with_unfolding_all rfl) ⟨trivial, trivial⟩ ?_
        refine am_ev_drop [2, 3, 4, 0, 5, 1] rfl rfl ?_
        replace h := Option.bind_eq_some_iff.mp h
        obtain ⟨⟨T_16, U_16, J_16, v1_16, v2_16, v3_16, v4_16, v5_16⟩, hc16, h⟩ := h
        try dsimp only at h
        refine ok_lp_fm_keep_91 hc16 D hD ?_
        refine am_ev_st 2 (f' := am_br (0 ≤ v3_16) 145 135 [(0, .ref 19), (1, .int v1_16), (2, .int v2_16), (3, .int v3_16), (4, .int v4_16), (5, .int v5_16)] [] (W9 N C E F P Q T_16 G U_16 H (br, bl) O J_16 V Y Z O9) k n) (g := True ∧ True ∧ True) (by with_unfolding_all rfl) ⟨trivial, trivial, trivial⟩ ?_
        by_cases c17 : 0 ≤ v3_16
        · rw [if_pos c17] at h
          refine am_ev_pos c17 ?_
          refine am_ev_st 2 (f' := am_br (v2_16 ≤ 0) 158 146 [(0, .ref 19), (1, .int v1_16), (2, .int v2_16), (3, .int v3_16), (4, .int v4_16), (5, .int v5_16)] [] (W9 N C E F P Q T_16 G U_16 H (br, bl) O J_16 V Y Z O9) k n) (g := True ∧ True ∧ True) (by with_unfolding_all rfl) ⟨trivial, trivial, trivial⟩ ?_
          by_cases c18 : v2_16 ≤ 0
          · rw [if_pos c18] at h
            refine am_ev_pos c18 ?_
            refine am_ev_st 2 (f' := (26, [(4, .int (v4_16 + (1 : Int32))), (0, .ref 19), (1, .int v1_16), (2, .int v2_16), (3, .int v3_16), (5, .int v5_16)], [], (W9 N C E F P Q T_16 G U_16 H (br, bl) O J_16 V Y Z O9), k, n)) (g := True ∧ True ∧ True) (by with_unfolding_all rfl) ⟨trivial, trivial, trivial⟩ ?_
            refine am_ev_drop [1, 2, 3, 4, 0] rfl rfl ?_
            exact ih h
          · rw [if_neg c18] at h
            refine am_ev_neg c18 ?_
            obtain ⟨jp_16, ji_16⟩ := J_16
            try dsimp only at h
            by_cases g19 : ((v2_16 - (1 : Int32)) < 0 ∨ 130 ≤ ((v2_16 - (1 : Int32))).toNatClampNeg)
            · rw [if_pos g19] at h; cases h
            rw [if_neg g19] at h
            refine am_ev_st 9 (f' := (26, [(4, .int (v4_16 + (1 : Int32))), (0, .ref 19), (1, .int v1_16), (2, .int v2_16), (3, .int v3_16), (5, .int v5_16)], [], (W9 N C E F P Q T_16 G U_16 H (br, bl) O (jp_16, (upd ji_16 ((v2_16 - (1 : Int32))).toNatClampNeg v3_16)) V Y Z O9), k, n)) (g := True ∧ True ∧ True ∧ True ∧ True ∧ True ∧ vp_in ((v2_16 - (1 : Int32))) 130 ∧ True ∧ True ∧ True) (by with_unfolding_all rfl) ⟨trivial, trivial, trivial, trivial, trivial, trivial, g19, trivial, trivial, trivial⟩ ?_
            refine am_ev_drop [1, 2, 3, 4, 0] rfl rfl ?_
            exact ih h
        · rw [if_neg c17] at h
          refine am_ev_neg c17 ?_
          obtain ⟨te_16, tk_16, ta_16, tb_16, tn_16, td_16⟩ := T_16
          try dsimp only at h
          refine am_ev_st 4 (f' := (144, [(0, .ref 19), (1, .int v1_16), (2, .int v2_16), (3, .int v3_16), (4, .int v4_16), (5, .int v5_16)], [.int (-1 : Int32)], (W9 N C E F P Q (v1_16, tk_16, ta_16, tb_16, tn_16, td_16) G U_16 H (br, bl) O J_16 V Y Z O9), k, n)) (g := True ∧ True ∧ True ∧ True ∧ True) (by with_unfolding_all rfl) ⟨trivial, trivial, trivial, trivial, trivial⟩ ?_
          cases h
          exact am_ev_ret 0 0 0 rfl .int rfl rfl rfl
      · rw [if_neg c6] at h
        refine am_ev_neg c6 ?_
        obtain ⟨jp, ji⟩ := J
        try dsimp only at h
        by_cases g20 : (v2 < 0 ∨ 130 ≤ (v2).toNatClampNeg)
        · rw [if_pos g20] at h; cases h
        rw [if_neg g20] at h
        by_cases g21 : (v2 < 0 ∨ 130 ≤ (v2).toNatClampNeg)
        · rw [if_pos g21] at h; cases h
        rw [if_neg g21] at h
        refine am_ev_st 14 (f' := (26, [(4, .int (v4 + (1 : Int32))), (2, .int (v2 + (1 : Int32))), (5, .int r4), (0, .ref 19), (1, .int v1), (3, .int v3)], [], (W9 N C E F P Q T G U H (br, bl) O ((upd jp (v2).toNatClampNeg r4), (upd ji (v2).toNatClampNeg (-1 : Int32))) V Y Z O9), k, n)) (g := True ∧ True ∧ True ∧ True ∧ vp_in (v2) 130 ∧ True ∧ True ∧ True ∧ True ∧ vp_in (v2) 130 ∧ True ∧ True ∧ True ∧ True ∧ True) (by with_unfolding_all rfl) ⟨trivial, trivial, trivial, trivial, g20, trivial, trivial, trivial, trivial, g21, trivial, trivial, trivial, trivial, trivial⟩ ?_
        refine am_ev_drop [3, 4, 1, 5, 0] rfl rfl ?_
        exact ih h
set_option maxHeartbeats 4000000 in
set_option maxRecDepth 100000 in
theorem ok_fm_keep {fl : Nat} {N : cN} {C : cC} {E : cE} {F : cF} {P : cP} {Q : cQ} {T : cT} {G : cG} {U : cU} {H : cH} {B : cB} {O : cO} {J : cJ} {V : cV} {Y : cY} {Z : cZ} {O9 : cO9} {k n : Nat} {rv : Int32} {T' : cT} {U' : cU} {J' : cJ} (h : fm_keep fl T G U H B J = some (rv, T', U', J')) (D : Nat) (hD : 3 ≤ D) : am_Call D 123 [.ref 19] (W9 N C E F P Q T G U H B O J V Y Z O9) k n (.inl (some (.int rv)), W9 N C E F P Q T' G U' H B O J' V Y Z O9, k, n) := by
  unfold fm_keep at h
  obtain ⟨D, rfl⟩ : ∃ D', D = D' + 1 := ⟨D - 1, by omega⟩
  have hD : 2 ≤ D := by omega
  refine am_call_run (by decide) (by decide) rfl (Nat.le_of_ble_eq_true rfl) (by decide) (L := [(0, .ref 19)]) rfl ?_
  refine am_ev_st 6 (f' := am_br (H ≠ 0) 14 9 [(0, .ref 19)] [] (W9 N C E F P Q T G ((0 : Int32)) H B O J V Y Z O9) k n) (g := True ∧ True ∧ True ∧ True ∧ True ∧ True ∧ True) (by with_unfolding_all rfl) ⟨trivial, trivial, trivial, trivial, trivial, trivial, trivial⟩ ?_
  by_cases c1 : H ≠ 0
  · rw [if_pos c1] at h
    refine am_ev_pos c1 ?_
    obtain ⟨te, tk, ta, tb, tn, td⟩ := T
    try dsimp only at h
    refine am_ev_st 9 (f' := (26, [(4, .int (0 : Int32)), (3, .int (-1 : Int32)), (2, .int (0 : Int32)), (1, .int te), (0, .ref 19)], [], (W9 N C E F P Q (te, tk, ta, tb, tn, td) G ((0 : Int32)) H B O J V Y Z O9), k, n)) (g := True ∧ True ∧ True ∧ True ∧ True ∧ True ∧ True ∧ True ∧ True ∧ True) (by with_unfolding_all rfl) ⟨trivial, trivial, trivial, trivial, trivial, trivial, trivial, trivial, trivial, trivial⟩ ?_
    refine am_ev_drop [4, 3, 2, 1, 0] rfl rfl ?_
    exact ok_lp_fm_keep_26 h D hD
  · rw [if_neg c1] at h
    refine am_ev_neg c1 ?_
    refine am_ev_st 1 (f' := (13, [(0, .ref 19)], [.int (-1 : Int32)], (W9 N C E F P Q T G ((0 : Int32)) H B O J V Y Z O9), k, n)) (g := True ∧ True) (by with_unfolding_all rfl) ⟨trivial, trivial⟩ ?_
    cases h
    exact am_ev_ret 0 0 0 rfl .int rfl rfl rfl
