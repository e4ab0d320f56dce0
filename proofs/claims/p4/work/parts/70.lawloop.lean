def lp_f_law_23 (sl : Nat) (xs : Nat → Int32) (fl : Nat) (d : Nat) : Nat → cN → cC → cE → cF → cP → cQ → cT → cG → cU → cH → cB → cO → cJ → cV → cY → cZ → cO9 → Nat → Nat → Int32 → Option (Bool × cN × cC × cE × cF × cP × cQ × cT × cG × cU × cH × cB × cO × cJ × cV × cY × cZ × cO9 × (Nat × Nat))
  | 0, _, _, _, _, _, _, _, _, _, _, _, _, _, _, _, _, _, _, _, _ => none
  | w + 1, N, C, E, F, P, Q, T, G, U, H, B, O, J, V, Y, Z, O9, k, n, v4 =>
    if ((Int32.ofNat sl) - (4 : Int32)) < v4 then
    (some (true, N, C, E, F, P, Q, T, G, U, H, B, O, J, V, Y, Z, O9, (k, n)))
    else
    if (v4 < 0 ∨ sl ≤ (v4).toNatClampNeg) then none else
    if ((xs (v4).toNatClampNeg) &&& (15 : Int32)) = (0 : Int32) then
    (if ((v4 + (1 : Int32)) < 0 ∨ sl ≤ ((v4 + (1 : Int32))).toNatClampNeg) then none else
    if ((v4 + (2 : Int32)) < 0 ∨ sl ≤ ((v4 + (2 : Int32))).toNatClampNeg) then none else
    if ((v4 + (3 : Int32)) < 0 ∨ sl ≤ ((v4 + (3 : Int32))).toNatClampNeg) then none else
    (fJ_make N C (xs ((v4 + (1 : Int32))).toNatClampNeg) (xs ((v4 + (2 : Int32))).toNatClampNeg) (xs ((v4 + (3 : Int32))).toNatClampNeg)).bind fun z7 =>
    match z7 with
    | (r7, N_7) =>
    if ((v4 + (1 : Int32)) < 0 ∨ sl ≤ ((v4 + (1 : Int32))).toNatClampNeg) then none else
    if ((v4 + (2 : Int32)) < 0 ∨ sl ≤ ((v4 + (2 : Int32))).toNatClampNeg) then none else
    if ((v4 + (3 : Int32)) < 0 ∨ sl ≤ ((v4 + (3 : Int32))).toNatClampNeg) then none else
    (fm_make T G U (xs ((v4 + (1 : Int32))).toNatClampNeg) (xs ((v4 + (2 : Int32))).toNatClampNeg) (xs ((v4 + (3 : Int32))).toNatClampNeg)).bind fun z11 =>
    match z11 with
    | (r11, T_11, U_11) =>
    lp_f_law_23 sl xs fl d w N_7 C E F P Q T_11 G U_11 H B O J V Y Z O9 k n (v4 + (4 : Int32)))
    else
    if ((xs (v4).toNatClampNeg) &&& (15 : Int32)) = (1 : Int32) then
    ((fJ_terms N).bind fun z13 =>
    match z13 with
    | (r13) =>
    (fm_terms T U).bind fun z14 =>
    match z14 with
    | (r14, U_14) =>
    lp_f_law_23 sl xs fl d w N C E F P Q T G U_14 H B O J V Y Z O9 k n (v4 + (4 : Int32)))
    else
    if ((xs (v4).toNatClampNeg) &&& (15 : Int32)) = (2 : Int32) then
    (if ((v4 + (1 : Int32)) < 0 ∨ sl ≤ ((v4 + (1 : Int32))).toNatClampNeg) then none else
    if ((v4 + (2 : Int32)) < 0 ∨ sl ≤ ((v4 + (2 : Int32))).toNatClampNeg) then none else
    (fJ_term N (xs ((v4 + (1 : Int32))).toNatClampNeg) (xs ((v4 + (2 : Int32))).toNatClampNeg)).bind fun z18 =>
    match z18 with
    | (r18) =>
    if ((v4 + (1 : Int32)) < 0 ∨ sl ≤ ((v4 + (1 : Int32))).toNatClampNeg) then none else
    if ((v4 + (2 : Int32)) < 0 ∨ sl ≤ ((v4 + (2 : Int32))).toNatClampNeg) then none else
    (fm_term T U (xs ((v4 + (1 : Int32))).toNatClampNeg) (xs ((v4 + (2 : Int32))).toNatClampNeg)).bind fun z21 =>
    match z21 with
    | (r21, U_21) =>
    if r18 = r21 then
    (lp_f_law_23 sl xs fl d w N C E F P Q T G U_21 H B O J V Y Z O9 k n (v4 + (4 : Int32)))
    else
    some (false, N, C, E, F, P, Q, T, G, U_21, H, B, O, J, V, Y, Z, O9, (k, n)))
    else
    if ((xs (v4).toNatClampNeg) &&& (15 : Int32)) = (3 : Int32) then
    (if ((v4 + (1 : Int32)) < 0 ∨ sl ≤ ((v4 + (1 : Int32))).toNatClampNeg) then none else
    if ((v4 + (2 : Int32)) < 0 ∨ sl ≤ ((v4 + (2 : Int32))).toNatClampNeg) then none else
    (fL_infer fl d N C E F P O9 k n (xs ((v4 + (1 : Int32))).toNatClampNeg) (xs ((v4 + (2 : Int32))).toNatClampNeg)).bind fun z26 =>
    match z26 with
    | (r26, N_26, E_26, F_26, P_26, O9_26, (k_26, n_26)) =>
    if ((v4 + (1 : Int32)) < 0 ∨ sl ≤ ((v4 + (1 : Int32))).toNatClampNeg) then none else
    if ((v4 + (2 : Int32)) < 0 ∨ sl ≤ ((v4 + (2 : Int32))).toNatClampNeg) then none else
    (fm_infer fl T G U H B O J V Y Z (xs ((v4 + (1 : Int32))).toNatClampNeg) (xs ((v4 + (2 : Int32))).toNatClampNeg)).bind fun z29 =>
    match z29 with
    | (r29, U_29, H_29, B_29, O_29, J_29, V_29, Y_29, Z_29) =>
    lp_f_law_23 sl xs fl d w N_26 C E_26 F_26 P_26 Q T G U_29 H_29 B_29 O_29 J_29 V_29 Y_29 Z_29 O9_26 k_26 n_26 (v4 + (4 : Int32)))
    else
    if ((xs (v4).toNatClampNeg) &&& (15 : Int32)) = (4 : Int32) then
    (if ((v4 + (1 : Int32)) < 0 ∨ sl ≤ ((v4 + (1 : Int32))).toNatClampNeg) then none else
    if ((v4 + (2 : Int32)) < 0 ∨ sl ≤ ((v4 + (2 : Int32))).toNatClampNeg) then none else
    (fL_reduce fl d N C E F P O9 k n (xs ((v4 + (1 : Int32))).toNatClampNeg) (xs ((v4 + (2 : Int32))).toNatClampNeg)).bind fun z33 =>
    match z33 with
    | (r33, N_33, E_33, F_33, P_33, O9_33, (k_33, n_33)) =>
    if ((v4 + (1 : Int32)) < 0 ∨ sl ≤ ((v4 + (1 : Int32))).toNatClampNeg) then none else
    if ((v4 + (2 : Int32)) < 0 ∨ sl ≤ ((v4 + (2 : Int32))).toNatClampNeg) then none else
    (fm_reduce fl T G U H B O J V (xs ((v4 + (1 : Int32))).toNatClampNeg) (xs ((v4 + (2 : Int32))).toNatClampNeg)).bind fun z36 =>
    match z36 with
    | (r36, U_36, H_36, B_36, O_36, J_36, V_36) =>
    lp_f_law_23 sl xs fl d w N_33 C E_33 F_33 P_33 Q T G U_36 H_36 B_36 O_36 J_36 V_36 Y Z O9_33 k_33 n_33 (v4 + (4 : Int32)))
    else
    if ((xs (v4).toNatClampNeg) &&& (15 : Int32)) = (5 : Int32) then
    (if ((v4 + (1 : Int32)) < 0 ∨ sl ≤ ((v4 + (1 : Int32))).toNatClampNeg) then none else
    if ((v4 + (2 : Int32)) < 0 ∨ sl ≤ ((v4 + (2 : Int32))).toNatClampNeg) then none else
    if ((v4 + (3 : Int32)) < 0 ∨ sl ≤ ((v4 + (3 : Int32))).toNatClampNeg) then none else
    (fL_same fl d N C E F O9 k n (xs ((v4 + (1 : Int32))).toNatClampNeg) (xs ((v4 + (2 : Int32))).toNatClampNeg) (xs ((v4 + (3 : Int32))).toNatClampNeg)).bind fun z41 =>
    match z41 with
    | (r41, N_41, E_41, F_41, O9_41, (k_41, n_41)) =>
    if ((v4 + (1 : Int32)) < 0 ∨ sl ≤ ((v4 + (1 : Int32))).toNatClampNeg) then none else
    if ((v4 + (2 : Int32)) < 0 ∨ sl ≤ ((v4 + (2 : Int32))).toNatClampNeg) then none else
    if ((v4 + (3 : Int32)) < 0 ∨ sl ≤ ((v4 + (3 : Int32))).toNatClampNeg) then none else
    (fm_same fl T G U B O J V Z (xs ((v4 + (1 : Int32))).toNatClampNeg) (xs ((v4 + (2 : Int32))).toNatClampNeg) (xs ((v4 + (3 : Int32))).toNatClampNeg)).bind fun z45 =>
    match z45 with
    | (r45, U_45, B_45, O_45, J_45, V_45, Z_45) =>
    lp_f_law_23 sl xs fl d w N_41 C E_41 F_41 P Q T G U_45 H B_45 O_45 J_45 V_45 Y Z_45 O9_41 k_41 n_41 (v4 + (4 : Int32)))
    else
    if ((xs (v4).toNatClampNeg) &&& (15 : Int32)) = (6 : Int32) then
    (if ((v4 + (1 : Int32)) < 0 ∨ sl ≤ ((v4 + (1 : Int32))).toNatClampNeg) then none else
    if ((v4 + (2 : Int32)) < 0 ∨ sl ≤ ((v4 + (2 : Int32))).toNatClampNeg) then none else
    if ((v4 + (3 : Int32)) < 0 ∨ sl ≤ ((v4 + (3 : Int32))).toNatClampNeg) then none else
    (fL_check fl d N C E F O9 k n (xs ((v4 + (1 : Int32))).toNatClampNeg) (xs ((v4 + (2 : Int32))).toNatClampNeg) (xs ((v4 + (3 : Int32))).toNatClampNeg)).bind fun z50 =>
    match z50 with
    | (r50, N_50, E_50, F_50, O9_50, (k_50, n_50)) =>
    if ((v4 + (1 : Int32)) < 0 ∨ sl ≤ ((v4 + (1 : Int32))).toNatClampNeg) then none else
    if ((v4 + (2 : Int32)) < 0 ∨ sl ≤ ((v4 + (2 : Int32))).toNatClampNeg) then none else
    if ((v4 + (3 : Int32)) < 0 ∨ sl ≤ ((v4 + (3 : Int32))).toNatClampNeg) then none else
    (fm_check fl T G U B O J V Y Z (xs ((v4 + (1 : Int32))).toNatClampNeg) (xs ((v4 + (2 : Int32))).toNatClampNeg) (xs ((v4 + (3 : Int32))).toNatClampNeg)).bind fun z54 =>
    match z54 with
    | (r54, U_54, B_54, O_54, J_54, V_54, Y_54, Z_54) =>
    lp_f_law_23 sl xs fl d w N_50 C E_50 F_50 P Q T G U_54 H B_54 O_54 J_54 V_54 Y_54 Z_54 O9_50 k_50 n_50 (v4 + (4 : Int32)))
    else
    if ((xs (v4).toNatClampNeg) &&& (15 : Int32)) = (7 : Int32) then
    (if ((v4 + (1 : Int32)) < 0 ∨ sl ≤ ((v4 + (1 : Int32))).toNatClampNeg) then none else
    if ((v4 + (2 : Int32)) < 0 ∨ sl ≤ ((v4 + (2 : Int32))).toNatClampNeg) then none else
    (fL_declare fl d N C E F O9 k n (xs ((v4 + (1 : Int32))).toNatClampNeg) (xs ((v4 + (2 : Int32))).toNatClampNeg)).bind fun z58 =>
    match z58 with
    | (r58, N_58, C_58, E_58, F_58, O9_58, (k_58, n_58)) =>
    if ((v4 + (1 : Int32)) < 0 ∨ sl ≤ ((v4 + (1 : Int32))).toNatClampNeg) then none else
    if ((v4 + (2 : Int32)) < 0 ∨ sl ≤ ((v4 + (2 : Int32))).toNatClampNeg) then none else
    (fm_declare fl T G U B O J V Y Z (xs ((v4 + (1 : Int32))).toNatClampNeg) (xs ((v4 + (2 : Int32))).toNatClampNeg)).bind fun z61 =>
    match z61 with
    | (r61, G_61, U_61, B_61, O_61, J_61, V_61, Y_61, Z_61) =>
    lp_f_law_23 sl xs fl d w N_58 C_58 E_58 F_58 P Q T G_61 U_61 H B_61 O_61 J_61 V_61 Y_61 Z_61 O9_58 k_58 n_58 (v4 + (4 : Int32)))
    else
    if ((xs (v4).toNatClampNeg) &&& (15 : Int32)) = (8 : Int32) then
    (if ((v4 + (1 : Int32)) < 0 ∨ sl ≤ ((v4 + (1 : Int32))).toNatClampNeg) then none else
    if ((v4 + (2 : Int32)) < 0 ∨ sl ≤ ((v4 + (2 : Int32))).toNatClampNeg) then none else
    (fL_define fl d N C E F Q O9 k n (xs ((v4 + (1 : Int32))).toNatClampNeg) (xs ((v4 + (2 : Int32))).toNatClampNeg)).bind fun z65 =>
    match z65 with
    | (r65, N_65, C_65, E_65, F_65, Q_65, O9_65, (k_65, n_65)) =>
    if ((v4 + (1 : Int32)) < 0 ∨ sl ≤ ((v4 + (1 : Int32))).toNatClampNeg) then none else
    if ((v4 + (2 : Int32)) < 0 ∨ sl ≤ ((v4 + (2 : Int32))).toNatClampNeg) then none else
    (fm_define fl T G U B O J V Y Z (xs ((v4 + (1 : Int32))).toNatClampNeg) (xs ((v4 + (2 : Int32))).toNatClampNeg)).bind fun z68 =>
    match z68 with
    | (r68, G_68, U_68, B_68, O_68, J_68, V_68, Y_68, Z_68) =>
    lp_f_law_23 sl xs fl d w N_65 C_65 E_65 F_65 P Q_65 T G_68 U_68 H B_68 O_68 J_68 V_68 Y_68 Z_68 O9_65 k_65 n_65 (v4 + (4 : Int32)))
    else
    if ((xs (v4).toNatClampNeg) &&& (15 : Int32)) = (9 : Int32) then
    ((fJ_constants C).bind fun z70 =>
    match z70 with
    | (r70) =>
    (fm_constants G U).bind fun z71 =>
    match z71 with
    | (r71, U_71) =>
    lp_f_law_23 sl xs fl d w N C E F P Q T G U_71 H B O J V Y Z O9 k n (v4 + (4 : Int32)))
    else
    if ((xs (v4).toNatClampNeg) &&& (15 : Int32)) = (10 : Int32) then
    (if ((v4 + (1 : Int32)) < 0 ∨ sl ≤ ((v4 + (1 : Int32))).toNatClampNeg) then none else
    (fJ_hasBody C (xs ((v4 + (1 : Int32))).toNatClampNeg)).bind fun z74 =>
    match z74 with
    | (r74) =>
    if ((v4 + (1 : Int32)) < 0 ∨ sl ≤ ((v4 + (1 : Int32))).toNatClampNeg) then none else
    (fm_hasBody G U (xs ((v4 + (1 : Int32))).toNatClampNeg)).bind fun z76 =>
    match z76 with
    | (r76, U_76) =>
    lp_f_law_23 sl xs fl d w N C E F P Q T G U_76 H B O J V Y Z O9 k n (v4 + (4 : Int32)))
    else
    if ((xs (v4).toNatClampNeg) &&& (15 : Int32)) = (11 : Int32) then
    (if ((v4 + (1 : Int32)) < 0 ∨ sl ≤ ((v4 + (1 : Int32))).toNatClampNeg) then none else
    (fJ_typeOf d N C P (xs ((v4 + (1 : Int32))).toNatClampNeg)).bind fun z79 =>
    match z79 with
    | (r79, P_79) =>
    if ((v4 + (1 : Int32)) < 0 ∨ sl ≤ ((v4 + (1 : Int32))).toNatClampNeg) then none else
    (fm_typeOf fl G U H B (xs ((v4 + (1 : Int32))).toNatClampNeg)).bind fun z81 =>
    match z81 with
    | (r81, U_81, H_81, B_81) =>
    lp_f_law_23 sl xs fl d w N C E F P_79 Q T G U_81 H_81 B_81 O J V Y Z O9 k n (v4 + (4 : Int32)))
    else
    if ((xs (v4).toNatClampNeg) &&& (15 : Int32)) = (12 : Int32) then
    (if ((v4 + (1 : Int32)) < 0 ∨ sl ≤ ((v4 + (1 : Int32))).toNatClampNeg) then none else
    (fJ_mark P (xs ((v4 + (1 : Int32))).toNatClampNeg)).bind fun z84 =>
    match z84 with
    | (r84) =>
    if ((v4 + (1 : Int32)) < 0 ∨ sl ≤ ((v4 + (1 : Int32))).toNatClampNeg) then none else
    (fm_mark U H B (xs ((v4 + (1 : Int32))).toNatClampNeg)).bind fun z86 =>
    match z86 with
    | (r86, U_86) =>
    lp_f_law_23 sl xs fl d w N C E F P Q T G U_86 H B O J V Y Z O9 k n (v4 + (4 : Int32)))
    else
    if ((xs (v4).toNatClampNeg) &&& (15 : Int32)) = (13 : Int32) then
    ((fJ_keep fl d N P k n).bind fun z88 =>
    match z88 with
    | (r88, N_88, P_88, (k_88, n_88)) =>
    (fm_keep fl T G U H B J).bind fun z89 =>
    match z89 with
    | (r89, T_89, U_89, J_89) =>
    lp_f_law_23 sl xs fl d w N_88 C E F P_88 Q T_89 G U_89 H B O J_89 V Y Z O9 k_88 n_88 (v4 + (4 : Int32)))
    else
    if ((xs (v4).toNatClampNeg) &&& (15 : Int32)) = (14 : Int32) then
    ((fJ_reduced E).bind fun z91 =>
    match z91 with
    | (r91) =>
    (fm_reduced U V).bind fun z92 =>
    match z92 with
    | (r92, U_92) =>
    lp_f_law_23 sl xs fl d w N C E F P Q T G U_92 H B O J V Y Z O9 k n (v4 + (4 : Int32)))
    else
    lp_f_law_23 sl xs fl d w N C E F P Q T G U H B O J V Y Z O9 k n (v4 + (4 : Int32))
set_option maxHeartbeats 4000000 in
set_option maxRecDepth 100000 in
theorem ok_lp_f_law_23 {sl : Nat} {xs : Nat → Int32} {fl d : Nat} : ∀ {w : Nat} {N : cN} {C : cC} {E : cE} {F : cF} {P : cP} {Q : cQ} {T : cT} {G : cG} {U : cU} {H : cH} {B : cB} {O : cO} {J : cJ} {V : cV} {Y : cY} {Z : cZ} {O9 : cO9} {k n : Nat} {v4 : Int32} {rv : Bool} {N' : cN} {C' : cC} {E' : cE} {F' : cF} {P' : cP} {Q' : cQ} {T' : cT} {G' : cG} {U' : cU} {H' : cH} {B' : cB} {O' : cO} {J' : cJ} {V' : cV} {Y' : cY} {Z' : cZ} {O9' : cO9} {k' n' : Nat} (h : lp_f_law_23 sl xs fl d w N C E F P Q T G U H B O J V Y Z O9 k n v4 = some (rv, N', C', E', F', P', Q', T', G', U', H', B', O', J', V', Y', Z', O9', (k', n'))) (D : Nat) (hD : d + 8 ≤ D), am_Ev D 131 (sl + 1) xs (23, [(0, .retAddr 0), (1, .ref 0), (2, .ref 19), (3, .ref 38), (4, .int v4)], [], (W9 N C E F P Q T G U H B O J V Y Z O9), k, n) (.inl (some (.int (am_bz rv))), W9 N' C' E' F' P' Q' T' G' U' H' B' O' J' V' Y' Z' O9', k', n') := by
  intro w
  induction w with
  | zero => intros; rename_i h _ _; cases h
  | succ w ih0 =>
    intro N C E F P Q T G U H B O J V Y Z O9 k n v4 rv N' C' E' F' P' Q' T' G' U' H' B' O' J' V' Y' Z' O9' k' n' h D hD
    have ih := fun {N} {C} {E} {F} {P} {Q} {T} {G} {U} {H} {B} {O} {J} {V} {Y} {Z} {O9} {k} {n} {v4} {rv} {N'} {C'} {E'} {F'} {P'} {Q'} {T'} {G'} {U'} {H'} {B'} {O'} {J'} {V'} {Y'} {Z'} {O9'} {k'} {n'} h => @ih0 N C E F P Q T G U H B O J V Y Z O9 k n v4 rv N' C' E' F' P' Q' T' G' U' H' B' O' J' V' Y' Z' O9' k' n' h D hD
    unfold lp_f_law_23 at h
    refine am_ev_st 6 (f' := am_br (((Int32.ofNat sl) - (4 : Int32)) < v4) 595 29 [(0, .retAddr 0), (1, .ref 0), (2, .ref 19), (3, .ref 38), (4, .int v4)] [] (W9 N C E F P Q T G U H B O J V Y Z O9) k n) (g := True ∧ True ∧ 0 < sl + 1 ∧ True ∧ True ∧ True ∧ True) (by with_unfolding_all rfl) ⟨trivial, trivial, Nat.succ_pos _, trivial, trivial, trivial, trivial⟩ ?_
    by_cases c1 : ((Int32.ofNat sl) - (4 : Int32)) < v4
    · rw [if_pos c1] at h
      refine am_ev_pos c1 ?_
      refine am_ev_st 1 (f' := (596, [(0, .retAddr 0), (1, .ref 0), (2, .ref 19), (3, .ref 38), (4, .int v4)], [.int (1 : Int32)], (W9 N C E F P Q T G U H B O J V Y Z O9), k, n)) (g := True ∧ True) (by with_unfolding_all rfl) ⟨trivial, trivial⟩ ?_
      cases h
      exact am_ev_ret 0 0 0 rfl .boolean rfl am_n1 rfl
    · rw [if_neg c1] at h
      refine am_ev_neg c1 ?_
      by_cases g2 : (v4 < 0 ∨ sl ≤ (v4).toNatClampNeg)
      · rw [if_pos g2] at h; cases h
      rw [if_neg g2] at h
      refine am_ev_st 6 (f' := ((am_tg [(0, 112), (1, 161), (2, 174), (3, 211), (4, 251), (5, 291), (6, 343), (7, 395), (8, 435), (9, 475), (10, 488), (11, 513), (12, 538), (13, 563), (14, 576)] 589 ((xs (v4).toNatClampNeg) &&& (15 : Int32))), [(0, .retAddr 0), (1, .ref 0), (2, .ref 19), (3, .ref 38), (4, .int v4)], [], (W9 N C E F P Q T G U H B O J V Y Z O9), k, n)) (g := True ∧ True ∧ (0 < sl + 1 ∧ vp_in (v4) sl) ∧ True ∧ True ∧ True ∧ True) (by with_unfolding_all rfl) ⟨trivial, trivial, ⟨Nat.succ_pos _, g2⟩, trivial, trivial, trivial, trivial⟩ ?_
      by_cases c3 : ((xs (v4).toNatClampNeg) &&& (15 : Int32)) = (0 : Int32)
      · rw [if_pos c3] at h
        refine am_ev_sweq c3 ?_
        by_cases g4 : ((v4 + (1 : Int32)) < 0 ∨ sl ≤ ((v4 + (1 : Int32))).toNatClampNeg)
        · rw [if_pos g4] at h; cases h
        rw [if_neg g4] at h
        by_cases g5 : ((v4 + (2 : Int32)) < 0 ∨ sl ≤ ((v4 + (2 : Int32))).toNatClampNeg)
        · rw [if_pos g5] at h; cases h
        rw [if_neg g5] at h
        by_cases g6 : ((v4 + (3 : Int32)) < 0 ∨ sl ≤ ((v4 + (3 : Int32))).toNatClampNeg)
        · rw [if_pos g6] at h; cases h
        rw [if_neg g6] at h
        refine am_ev_st 16 (f' := (131, [(0, .retAddr 0), (1, .ref 0), (2, .ref 19), (3, .ref 38), (4, .int v4)], [.int (xs ((v4 + (3 : Int32))).toNatClampNeg), .int (xs ((v4 + (2 : Int32))).toNatClampNeg), .int (xs ((v4 + (1 : Int32))).toNatClampNeg), .ref 0], (W9 N C E F P Q T G U H B O J V Y Z O9), k, n)) (g := True ∧ True ∧ True ∧ True ∧ True ∧ (0 < sl + 1 ∧ vp_in ((v4 + (1 : Int32))) sl) ∧ True ∧ True ∧ True ∧ True ∧ (0 < sl + 1 ∧ vp_in ((v4 + (2 : Int32))) sl) ∧ True ∧ True ∧ True ∧ True ∧ (0 < sl + 1 ∧ vp_in ((v4 + (3 : Int32))) sl) ∧ True) (by with_unfolding_all rfl) ⟨trivial, trivial, trivial, trivial, trivial, ⟨Nat.succ_pos _, g4⟩, trivial, trivial, trivial, trivial, ⟨Nat.succ_pos _, g5⟩, trivial, trivial, trivial, trivial, ⟨Nat.succ_pos _, g6⟩, trivial⟩ ?_
        replace h := Option.bind_eq_some_iff.mp h
        obtain ⟨⟨r7, N_7⟩, hc7, h⟩ := h
        try dsimp only at h
        refine am_ev_call (.invokevirtual 39) 56 6 208 [.ref 0, .int (xs ((v4 + (1 : Int32))).toNatClampNeg), .int (xs ((v4 + (2 : Int32))).toNatClampNeg), .int (xs ((v4 + (3 : Int32))).toNatClampNeg)] [] rfl rfl rfl rfl (ok_fJ_make hc7 D (by omega)) rfl ?_
        by_cases g8 : ((v4 + (1 : Int32)) < 0 ∨ sl ≤ ((v4 + (1 : Int32))).toNatClampNeg)
        · rw [if_pos g8] at h; cases h
        rw [if_neg g8] at h
        by_cases g9 : ((v4 + (2 : Int32)) < 0 ∨ sl ≤ ((v4 + (2 : Int32))).toNatClampNeg)
        · rw [if_pos g9] at h; cases h
        rw [if_neg g9] at h
        by_cases g10 : ((v4 + (3 : Int32)) < 0 ∨ sl ≤ ((v4 + (3 : Int32))).toNatClampNeg)
        · rw [if_pos g10] at h; cases h
        rw [if_neg g10] at h
        refine am_ev_st 17 (f' := (154, [(0, .retAddr 0), (1, .ref 0), (2, .ref 19), (3, .ref 38), (4, .int v4)], [.int (xs ((v4 + (3 : Int32))).toNatClampNeg), .int (xs ((v4 + (2 : Int32))).toNatClampNeg), .int (xs ((v4 + (1 : Int32))).toNatClampNeg), .ref 19], (W9 N_7 C E F P Q T G U H B O J V Y Z O9), k, n)) (g := True ∧ True ∧ True ∧ True ∧ True ∧ True ∧ (0 < sl + 1 ∧ vp_in ((v4 + (1 : Int32))) sl) ∧ True ∧ True ∧ True ∧ True ∧ (0 < sl + 1 ∧ vp_in ((v4 + (2 : Int32))) sl) ∧ True ∧ True ∧ True ∧ True ∧ (0 < sl + 1 ∧ vp_in ((v4 + (3 : Int32))) sl) ∧ True) (by with_unfolding_all rfl) ⟨trivial, trivial, trivial, trivial, trivial, trivial, ⟨Nat.succ_pos _, g8⟩, trivial, trivial, trivial, trivial, ⟨Nat.succ_pos _, g9⟩, trivial, trivial, trivial, trivial, ⟨Nat.succ_pos _, g10⟩, trivial⟩ ?_
        replace h := Option.bind_eq_some_iff.mp h
        obtain ⟨⟨r11, T_11, U_11⟩, hc11, h⟩ := h
        try dsimp only at h
        refine am_ev_call (.invokevirtual 43) 105 6 780 [.ref 19, .int (xs ((v4 + (1 : Int32))).toNatClampNeg), .int (xs ((v4 + (2 : Int32))).toNatClampNeg), .int (xs ((v4 + (3 : Int32))).toNatClampNeg)] [] rfl rfl rfl rfl (ok_fm_make hc11 D (by omega)) rfl ?_
        refine am_ev_st 4 (f' := (23, [(4, .int (v4 + (4 : Int32))), (0, .retAddr 0), (1, .ref 0), (2, .ref 19), (3, .ref 38)], [], (W9 N_7 C E F P Q T_11 G U_11 H B O J V Y Z O9), k, n)) (g := True ∧ True ∧ True ∧ True ∧ True) (by with_unfolding_all rfl) ⟨trivial, trivial, trivial, trivial, trivial⟩ ?_
        refine am_ev_drop [1, 2, 3, 4, 0] rfl rfl ?_
        exact ih h
      rw [if_neg c3] at h
      refine am_ev_swne c3 ?_
      by_cases c12 : ((xs (v4).toNatClampNeg) &&& (15 : Int32)) = (1 : Int32)
      · rw [if_pos c12] at h
        refine am_ev_sweq c12 ?_
        refine am_ev_st 1 (f' := (162, [(0, .retAddr 0), (1, .ref 0), (2, .ref 19), (3, .ref 38), (4, .int v4)], [.ref 0], (W9 N C E F P Q T G U H B O J V Y Z O9), k, n)) (g := True ∧ True) (by with_unfolding_all rfl) ⟨trivial, trivial⟩ ?_
        replace h := Option.bind_eq_some_iff.mp h
        obtain ⟨r13, hc13, h⟩ := h
        try dsimp only at h
        refine am_ev_call (.invokevirtual 44) 57 0 250 [.ref 0] [] rfl rfl rfl rfl (ok_fJ_terms hc13 D (by omega)) rfl ?_
        refine am_ev_st 2 (f' := (167, [(0, .retAddr 0), (1, .ref 0), (2, .ref 19), (3, .ref 38), (4, .int v4)], [.ref 19], (W9 N C E F P Q T G U H B O J V Y Z O9), k, n)) (g := True ∧ True ∧ True) (by with_unfolding_all rfl) ⟨trivial, trivial, trivial⟩ ?_
        replace h := Option.bind_eq_some_iff.mp h
        obtain ⟨⟨r14, U_14⟩, hc14, h⟩ := h
        try dsimp only at h
        refine am_ev_call (.invokevirtual 48) 106 0 784 [.ref 19] [] rfl rfl rfl rfl (ok_fm_terms hc14 D (by omega)) rfl ?_
        refine am_ev_st 4 (f' := (23, [(4, .int (v4 + (4 : Int32))), (0, .retAddr 0), (1, .ref 0), (2, .ref 19), (3, .ref 38)], [], (W9 N C E F P Q T G U_14 H B O J V Y Z O9), k, n)) (g := True ∧ True ∧ True ∧ True ∧ True) (by with_unfolding_all rfl) ⟨trivial, trivial, trivial, trivial, trivial⟩ ?_
        refine am_ev_drop [1, 2, 3, 4, 0] rfl rfl ?_
        exact ih h
      rw [if_neg c12] at h
      refine am_ev_swne c12 ?_
      by_cases c15 : ((xs (v4).toNatClampNeg) &&& (15 : Int32)) = (2 : Int32)
      · rw [if_pos c15] at h
        refine am_ev_sweq c15 ?_
        by_cases g16 : ((v4 + (1 : Int32)) < 0 ∨ sl ≤ ((v4 + (1 : Int32))).toNatClampNeg)
        · rw [if_pos g16] at h; cases h
        rw [if_neg g16] at h
        by_cases g17 : ((v4 + (2 : Int32)) < 0 ∨ sl ≤ ((v4 + (2 : Int32))).toNatClampNeg)
        · rw [if_pos g17] at h; cases h
        rw [if_neg g17] at h
        refine am_ev_st 11 (f' := (187, [(0, .retAddr 0), (1, .ref 0), (2, .ref 19), (3, .ref 38), (4, .int v4)], [.int (xs ((v4 + (2 : Int32))).toNatClampNeg), .int (xs ((v4 + (1 : Int32))).toNatClampNeg), .ref 0], (W9 N C E F P Q T G U H B O J V Y Z O9), k, n)) (g := True ∧ True ∧ True ∧ True ∧ True ∧ (0 < sl + 1 ∧ vp_in ((v4 + (1 : Int32))) sl) ∧ True ∧ True ∧ True ∧ True ∧ (0 < sl + 1 ∧ vp_in ((v4 + (2 : Int32))) sl) ∧ True) (by with_unfolding_all rfl) ⟨trivial, trivial, trivial, trivial, trivial, ⟨Nat.succ_pos _, g16⟩, trivial, trivial, trivial, trivial, ⟨Nat.succ_pos _, g17⟩, trivial⟩ ?_
        replace h := Option.bind_eq_some_iff.mp h
        obtain ⟨r18, hc18, h⟩ := h
        try dsimp only at h
        refine am_ev_call (.invokevirtual 49) 58 4 258 [.ref 0, .int (xs ((v4 + (1 : Int32))).toNatClampNeg), .int (xs ((v4 + (2 : Int32))).toNatClampNeg)] [] rfl rfl rfl rfl (ok_fJ_term hc18 D (by omega)) rfl ?_
        by_cases g19 : ((v4 + (1 : Int32)) < 0 ∨ sl ≤ ((v4 + (1 : Int32))).toNatClampNeg)
        · rw [if_pos g19] at h; cases h
        rw [if_neg g19] at h
        by_cases g20 : ((v4 + (2 : Int32)) < 0 ∨ sl ≤ ((v4 + (2 : Int32))).toNatClampNeg)
        · rw [if_pos g20] at h; cases h
        rw [if_neg g20] at h
        refine am_ev_st 11 (f' := (203, [(0, .retAddr 0), (1, .ref 0), (2, .ref 19), (3, .ref 38), (4, .int v4)], [.int (xs ((v4 + (2 : Int32))).toNatClampNeg), .int (xs ((v4 + (1 : Int32))).toNatClampNeg), .ref 19, .int r18], (W9 N C E F P Q T G U H B O J V Y Z O9), k, n)) (g := True ∧ True ∧ True ∧ True ∧ True ∧ (0 < sl + 1 ∧ vp_in ((v4 + (1 : Int32))) sl) ∧ True ∧ True ∧ True ∧ True ∧ (0 < sl + 1 ∧ vp_in ((v4 + (2 : Int32))) sl) ∧ True) (by with_unfolding_all rfl) ⟨trivial, trivial, trivial, trivial, trivial, ⟨Nat.succ_pos _, g19⟩, trivial, trivial, trivial, trivial, ⟨Nat.succ_pos _, g20⟩, trivial⟩ ?_
        replace h := Option.bind_eq_some_iff.mp h
        obtain ⟨⟨r21, U_21⟩, hc21, h⟩ := h
        try dsimp only at h
        refine am_ev_call (.invokevirtual 52) 108 4 788 [.ref 19, .int (xs ((v4 + (1 : Int32))).toNatClampNeg), .int (xs ((v4 + (2 : Int32))).toNatClampNeg)] [.int r18] rfl rfl rfl rfl (ok_fm_term hc21 D (by omega)) rfl ?_
        refine am_ev_st 1 (f' := am_br (r18 = r21) 589 206 [(0, .retAddr 0), (1, .ref 0), (2, .ref 19), (3, .ref 38), (4, .int v4)] [] (W9 N C E F P Q T G U_21 H B O J V Y Z O9) k n) (g := True ∧ True) (by with_unfolding_all rfl) ⟨trivial, trivial⟩ ?_
        by_cases c22 : r18 = r21
        · rw [if_pos c22] at h
          refine am_ev_pos c22 ?_
          refine am_ev_st 2 (f' := (23, [(4, .int (v4 + (4 : Int32))), (0, .retAddr 0), (1, .ref 0), (2, .ref 19), (3, .ref 38)], [], (W9 N C E F P Q T G U_21 H B O J V Y Z O9), k, n)) (g := True ∧ True ∧ True) (by with_unfolding_all rfl) ⟨trivial, trivial, trivial⟩ ?_
          refine am_ev_drop [1, 2, 3, 4, 0] rfl rfl ?_
          exact ih h
        · rw [if_neg c22] at h
          refine am_ev_neg c22 ?_
          refine am_ev_st 1 (f' := (210, [(0, .retAddr 0), (1, .ref 0), (2, .ref 19), (3, .ref 38), (4, .int v4)], [.int (0 : Int32)], (W9 N C E F P Q T G U_21 H B O J V Y Z O9), k, n)) (g := True ∧ True) (by with_unfolding_all rfl) ⟨trivial, trivial⟩ ?_
          cases h
          exact am_ev_ret 0 0 0 rfl .boolean rfl am_n0 rfl
      rw [if_neg c15] at h
      refine am_ev_swne c15 ?_
      by_cases c23 : ((xs (v4).toNatClampNeg) &&& (15 : Int32)) = (3 : Int32)
      · rw [if_pos c23] at h
        refine am_ev_sweq c23 ?_
        by_cases g24 : ((v4 + (1 : Int32)) < 0 ∨ sl ≤ ((v4 + (1 : Int32))).toNatClampNeg)
        · rw [if_pos g24] at h; cases h
        rw [if_neg g24] at h
        by_cases g25 : ((v4 + (2 : Int32)) < 0 ∨ sl ≤ ((v4 + (2 : Int32))).toNatClampNeg)
        · rw [if_pos g25] at h; cases h
        rw [if_neg g25] at h
        refine am_ev_st 12 (f' := (225, [(0, .retAddr 0), (1, .ref 0), (2, .ref 19), (3, .ref 38), (4, .int v4)], [.ref 38, .int (xs ((v4 + (2 : Int32))).toNatClampNeg), .int (xs ((v4 + (1 : Int32))).toNatClampNeg), .ref 0], (W9 N C E F P Q T G U H B O J V Y Z O9), k, n)) (g := True ∧ True ∧ True ∧ True ∧ True ∧ (0 < sl + 1 ∧ vp_in ((v4 + (1 : Int32))) sl) ∧ True ∧ True ∧ True ∧ True ∧ (0 < sl + 1 ∧ vp_in ((v4 + (2 : Int32))) sl) ∧ True ∧ True) (by with_unfolding_all rfl) ⟨trivial, trivial, trivial, trivial, trivial, ⟨Nat.succ_pos _, g24⟩, trivial, trivial, trivial, trivial, ⟨Nat.succ_pos _, g25⟩, trivial, trivial⟩ ?_
        replace h := Option.bind_eq_some_iff.mp h
        obtain ⟨⟨r26, N_26, E_26, F_26, P_26, O9_26, ⟨k_26, n_26⟩⟩, hc26, h⟩ := h
        try dsimp only at h
        refine am_ev_call (.invokestatic 53) 125 8 455 [.ref 0, .int (xs ((v4 + (1 : Int32))).toNatClampNeg), .int (xs ((v4 + (2 : Int32))).toNatClampNeg), .ref 38] [] rfl rfl rfl rfl (ok_fL_infer hc26 D (by omega)) rfl ?_
        by_cases g27 : ((v4 + (1 : Int32)) < 0 ∨ sl ≤ ((v4 + (1 : Int32))).toNatClampNeg)
        · rw [if_pos g27] at h; cases h
        rw [if_neg g27] at h
        by_cases g28 : ((v4 + (2 : Int32)) < 0 ∨ sl ≤ ((v4 + (2 : Int32))).toNatClampNeg)
        · rw [if_pos g28] at h; cases h
        rw [if_neg g28] at h
        refine am_ev_st 12 (f' := (243, [(5, .int r26), (0, .retAddr 0), (1, .ref 0), (2, .ref 19), (3, .ref 38), (4, .int v4)], [.int (xs ((v4 + (2 : Int32))).toNatClampNeg), .int (xs ((v4 + (1 : Int32))).toNatClampNeg), .ref 19], (W9 N_26 C E_26 F_26 P_26 Q T G U H B O J V Y Z O9_26), k_26, n_26)) (g := True ∧ True ∧ True ∧ True ∧ True ∧ True ∧ (0 < sl + 1 ∧ vp_in ((v4 + (1 : Int32))) sl) ∧ True ∧ True ∧ True ∧ True ∧ (0 < sl + 1 ∧ vp_in ((v4 + (2 : Int32))) sl) ∧ True) (by with_unfolding_all rfl) ⟨trivial, trivial, trivial, trivial, trivial, trivial, ⟨Nat.succ_pos _, g27⟩, trivial, trivial, trivial, trivial, ⟨Nat.succ_pos _, g28⟩, trivial⟩ ?_
        replace h := Option.bind_eq_some_iff.mp h
        obtain ⟨⟨r29, U_29, H_29, B_29, O_29, J_29, V_29, Y_29, Z_29⟩, hc29, h⟩ := h
        try dsimp only at h
        refine am_ev_call (.invokevirtual 58) 112 4 796 [.ref 19, .int (xs ((v4 + (1 : Int32))).toNatClampNeg), .int (xs ((v4 + (2 : Int32))).toNatClampNeg)] [] rfl rfl rfl rfl (ok_fm_infer hc29 D (by omega)) rfl ?_
        refine am_ev_st 4 (f' := (23, [(4, .int (v4 + (4 : Int32))), (6, .int r29), (5, .int r26), (0, .retAddr 0), (1, .ref 0), (2, .ref 19), (3, .ref 38)], [], (W9 N_26 C E_26 F_26 P_26 Q T G U_29 H_29 B_29 O_29 J_29 V_29 Y_29 Z_29 O9_26), k_26, n_26)) (g := True ∧ True ∧ True ∧ True ∧ True) (by with_unfolding_all rfl) ⟨trivial, trivial, trivial, trivial, trivial⟩ ?_
        refine am_ev_drop [3, 4, 5, 6, 0] rfl rfl ?_
        exact ih h
      rw [if_neg c23] at h
      refine am_ev_swne c23 ?_
      by_cases c30 : ((xs (v4).toNatClampNeg) &&& (15 : Int32)) = (4 : Int32)
      · rw [if_pos c30] at h
        refine am_ev_sweq c30 ?_
        by_cases g31 : ((v4 + (1 : Int32)) < 0 ∨ sl ≤ ((v4 + (1 : Int32))).toNatClampNeg)
        · rw [if_pos g31] at h; cases h
        rw [if_neg g31] at h
        by_cases g32 : ((v4 + (2 : Int32)) < 0 ∨ sl ≤ ((v4 + (2 : Int32))).toNatClampNeg)
        · rw [if_pos g32] at h; cases h
        rw [if_neg g32] at h
        refine am_ev_st 12 (f' := (265, [(0, .retAddr 0), (1, .ref 0), (2, .ref 19), (3, .ref 38), (4, .int v4)], [.ref 38, .int (xs ((v4 + (2 : Int32))).toNatClampNeg), .int (xs ((v4 + (1 : Int32))).toNatClampNeg), .ref 0], (W9 N C E F P Q T G U H B O J V Y Z O9), k, n)) (g := True ∧ True ∧ True ∧ True ∧ True ∧ (0 < sl + 1 ∧ vp_in ((v4 + (1 : Int32))) sl) ∧ True ∧ True ∧ True ∧ True ∧ (0 < sl + 1 ∧ vp_in ((v4 + (2 : Int32))) sl) ∧ True ∧ True) (by with_unfolding_all rfl) ⟨trivial, trivial, trivial, trivial, trivial, ⟨Nat.succ_pos _, g31⟩, trivial, trivial, trivial, trivial, ⟨Nat.succ_pos _, g32⟩, trivial, trivial⟩ ?_
        replace h := Option.bind_eq_some_iff.mp h
        obtain ⟨⟨r33, N_33, E_33, F_33, P_33, O9_33, ⟨k_33, n_33⟩⟩, hc33, h⟩ := h
        try dsimp only at h
        refine am_ev_call (.invokestatic 59) 126 8 618 [.ref 0, .int (xs ((v4 + (1 : Int32))).toNatClampNeg), .int (xs ((v4 + (2 : Int32))).toNatClampNeg), .ref 38] [] rfl rfl rfl rfl (ok_fL_reduce hc33 D (by omega)) rfl ?_
        by_cases g34 : ((v4 + (1 : Int32)) < 0 ∨ sl ≤ ((v4 + (1 : Int32))).toNatClampNeg)
        · rw [if_pos g34] at h; cases h
        rw [if_neg g34] at h
        by_cases g35 : ((v4 + (2 : Int32)) < 0 ∨ sl ≤ ((v4 + (2 : Int32))).toNatClampNeg)
        · rw [if_pos g35] at h; cases h
        rw [if_neg g35] at h
        refine am_ev_st 12 (f' := (283, [(5, .int r33), (0, .retAddr 0), (1, .ref 0), (2, .ref 19), (3, .ref 38), (4, .int v4)], [.int (xs ((v4 + (2 : Int32))).toNatClampNeg), .int (xs ((v4 + (1 : Int32))).toNatClampNeg), .ref 19], (W9 N_33 C E_33 F_33 P_33 Q T G U H B O J V Y Z O9_33), k_33, n_33)) (g := True ∧ True ∧ True ∧ True ∧ True ∧ True ∧ (0 < sl + 1 ∧ vp_in ((v4 + (1 : Int32))) sl) ∧ True ∧ True ∧ True ∧ True ∧ (0 < sl + 1 ∧ vp_in ((v4 + (2 : Int32))) sl) ∧ True) (by with_unfolding_all rfl) ⟨trivial, trivial, trivial, trivial, trivial, trivial, ⟨Nat.succ_pos _, g34⟩, trivial, trivial, trivial, trivial, ⟨Nat.succ_pos _, g35⟩, trivial⟩ ?_
        replace h := Option.bind_eq_some_iff.mp h
        obtain ⟨⟨r36, U_36, H_36, B_36, O_36, J_36, V_36⟩, hc36, h⟩ := h
        try dsimp only at h
        refine am_ev_call (.invokevirtual 61) 113 4 921 [.ref 19, .int (xs ((v4 + (1 : Int32))).toNatClampNeg), .int (xs ((v4 + (2 : Int32))).toNatClampNeg)] [] rfl rfl rfl rfl (ok_fm_reduce hc36 D (by omega)) rfl ?_
        refine am_ev_st 4 (f' := (23, [(4, .int (v4 + (4 : Int32))), (6, .int r36), (5, .int r33), (0, .retAddr 0), (1, .ref 0), (2, .ref 19), (3, .ref 38)], [], (W9 N_33 C E_33 F_33 P_33 Q T G U_36 H_36 B_36 O_36 J_36 V_36 Y Z O9_33), k_33, n_33)) (g := True ∧ True ∧ True ∧ True ∧ True) (by with_unfolding_all rfl) ⟨trivial, trivial, trivial, trivial, trivial⟩ ?_
        refine am_ev_drop [3, 4, 5, 6, 0] rfl rfl ?_
        exact ih h
      rw [if_neg c30] at h
      refine am_ev_swne c30 ?_
      by_cases c37 : ((xs (v4).toNatClampNeg) &&& (15 : Int32)) = (5 : Int32)
      · rw [if_pos c37] at h
        refine am_ev_sweq c37 ?_
        by_cases g38 : ((v4 + (1 : Int32)) < 0 ∨ sl ≤ ((v4 + (1 : Int32))).toNatClampNeg)
        · rw [if_pos g38] at h; cases h
        rw [if_neg g38] at h
        by_cases g39 : ((v4 + (2 : Int32)) < 0 ∨ sl ≤ ((v4 + (2 : Int32))).toNatClampNeg)
        · rw [if_pos g39] at h; cases h
        rw [if_neg g39] at h
        by_cases g40 : ((v4 + (3 : Int32)) < 0 ∨ sl ≤ ((v4 + (3 : Int32))).toNatClampNeg)
        · rw [if_pos g40] at h; cases h
        rw [if_neg g40] at h
        refine am_ev_st 17 (f' := (311, [(0, .retAddr 0), (1, .ref 0), (2, .ref 19), (3, .ref 38), (4, .int v4)], [.ref 38, .int (xs ((v4 + (3 : Int32))).toNatClampNeg), .int (xs ((v4 + (2 : Int32))).toNatClampNeg), .int (xs ((v4 + (1 : Int32))).toNatClampNeg), .ref 0], (W9 N C E F P Q T G U H B O J V Y Z O9), k, n)) (g := True ∧ True ∧ True ∧ True ∧ True ∧ (0 < sl + 1 ∧ vp_in ((v4 + (1 : Int32))) sl) ∧ True ∧ True ∧ True ∧ True ∧ (0 < sl + 1 ∧ vp_in ((v4 + (2 : Int32))) sl) ∧ True ∧ True ∧ True ∧ True ∧ (0 < sl + 1 ∧ vp_in ((v4 + (3 : Int32))) sl) ∧ True ∧ True) (by with_unfolding_all rfl) ⟨trivial, trivial, trivial, trivial, trivial, ⟨Nat.succ_pos _, g38⟩, trivial, trivial, trivial, trivial, ⟨Nat.succ_pos _, g39⟩, trivial, trivial, trivial, trivial, ⟨Nat.succ_pos _, g40⟩, trivial, trivial⟩ ?_
        replace h := Option.bind_eq_some_iff.mp h
        obtain ⟨⟨r41, N_41, E_41, F_41, O9_41, ⟨k_41, n_41⟩⟩, hc41, h⟩ := h
        try dsimp only at h
        refine am_ev_call (.invokestatic 62) 127 10 626 [.ref 0, .int (xs ((v4 + (1 : Int32))).toNatClampNeg), .int (xs ((v4 + (2 : Int32))).toNatClampNeg), .int (xs ((v4 + (3 : Int32))).toNatClampNeg), .ref 38] [] rfl rfl rfl rfl (ok_fL_same hc41 D (by omega)) rfl ?_
        by_cases g42 : ((v4 + (1 : Int32)) < 0 ∨ sl ≤ ((v4 + (1 : Int32))).toNatClampNeg)
        · rw [if_pos g42] at h; cases h
        rw [if_neg g42] at h
        by_cases g43 : ((v4 + (2 : Int32)) < 0 ∨ sl ≤ ((v4 + (2 : Int32))).toNatClampNeg)
        · rw [if_pos g43] at h; cases h
        rw [if_neg g43] at h
        by_cases g44 : ((v4 + (3 : Int32)) < 0 ∨ sl ≤ ((v4 + (3 : Int32))).toNatClampNeg)
        · rw [if_pos g44] at h; cases h
        rw [if_neg g44] at h
        refine am_ev_st 17 (f' := (335, [(5, .int r41), (0, .retAddr 0), (1, .ref 0), (2, .ref 19), (3, .ref 38), (4, .int v4)], [.int (xs ((v4 + (3 : Int32))).toNatClampNeg), .int (xs ((v4 + (2 : Int32))).toNatClampNeg), .int (xs ((v4 + (1 : Int32))).toNatClampNeg), .ref 19], (W9 N_41 C E_41 F_41 P Q T G U H B O J V Y Z O9_41), k_41, n_41)) (g := True ∧ True ∧ True ∧ True ∧ True ∧ True ∧ (0 < sl + 1 ∧ vp_in ((v4 + (1 : Int32))) sl) ∧ True ∧ True ∧ True ∧ True ∧ (0 < sl + 1 ∧ vp_in ((v4 + (2 : Int32))) sl) ∧ True ∧ True ∧ True ∧ True ∧ (0 < sl + 1 ∧ vp_in ((v4 + (3 : Int32))) sl) ∧ True) (by with_unfolding_all rfl) ⟨trivial, trivial, trivial, trivial, trivial, trivial, ⟨Nat.succ_pos _, g42⟩, trivial, trivial, trivial, trivial, ⟨Nat.succ_pos _, g43⟩, trivial, trivial, trivial, trivial, ⟨Nat.succ_pos _, g44⟩, trivial⟩ ?_
        replace h := Option.bind_eq_some_iff.mp h
        obtain ⟨⟨r45, U_45, B_45, O_45, J_45, V_45, Z_45⟩, hc45, h⟩ := h
        try dsimp only at h
        refine am_ev_call (.invokevirtual 65) 114 6 925 [.ref 19, .int (xs ((v4 + (1 : Int32))).toNatClampNeg), .int (xs ((v4 + (2 : Int32))).toNatClampNeg), .int (xs ((v4 + (3 : Int32))).toNatClampNeg)] [] rfl rfl rfl rfl (ok_fm_same hc45 D (by omega)) rfl ?_
        refine am_ev_st 4 (f' := (23, [(4, .int (v4 + (4 : Int32))), (6, .int (am_bz r45)), (5, .int r41), (0, .retAddr 0), (1, .ref 0), (2, .ref 19), (3, .ref 38)], [], (W9 N_41 C E_41 F_41 P Q T G U_45 H B_45 O_45 J_45 V_45 Y Z_45 O9_41), k_41, n_41)) (g := True ∧ True ∧ True ∧ True ∧ True) (by with_unfolding_all rfl) ⟨trivial, trivial, trivial, trivial, trivial⟩ ?_
        refine am_ev_drop [3, 4, 5, 6, 0] rfl rfl ?_
        exact ih h
      rw [if_neg c37] at h
      refine am_ev_swne c37 ?_
      by_cases c46 : ((xs (v4).toNatClampNeg) &&& (15 : Int32)) = (6 : Int32)
      · rw [if_pos c46] at h
        refine am_ev_sweq c46 ?_
        by_cases g47 : ((v4 + (1 : Int32)) < 0 ∨ sl ≤ ((v4 + (1 : Int32))).toNatClampNeg)
        · rw [if_pos g47] at h; cases h
        rw [if_neg g47] at h
        by_cases g48 : ((v4 + (2 : Int32)) < 0 ∨ sl ≤ ((v4 + (2 : Int32))).toNatClampNeg)
        · rw [if_pos g48] at h; cases h
        rw [if_neg g48] at h
        by_cases g49 : ((v4 + (3 : Int32)) < 0 ∨ sl ≤ ((v4 + (3 : Int32))).toNatClampNeg)
        · rw [if_pos g49] at h; cases h
        rw [if_neg g49] at h
        refine am_ev_st 17 (f' := (363, [(0, .retAddr 0), (1, .ref 0), (2, .ref 19), (3, .ref 38), (4, .int v4)], [.ref 38, .int (xs ((v4 + (3 : Int32))).toNatClampNeg), .int (xs ((v4 + (2 : Int32))).toNatClampNeg), .int (xs ((v4 + (1 : Int32))).toNatClampNeg), .ref 0], (W9 N C E F P Q T G U H B O J V Y Z O9), k, n)) (g := True ∧ True ∧ True ∧ True ∧ True ∧ (0 < sl + 1 ∧ vp_in ((v4 + (1 : Int32))) sl) ∧ True ∧ True ∧ True ∧ True ∧ (0 < sl + 1 ∧ vp_in ((v4 + (2 : Int32))) sl) ∧ True ∧ True ∧ True ∧ True ∧ (0 < sl + 1 ∧ vp_in ((v4 + (3 : Int32))) sl) ∧ True ∧ True) (by with_unfolding_all rfl) ⟨trivial, trivial, trivial, trivial, trivial, ⟨Nat.succ_pos _, g47⟩, trivial, trivial, trivial, trivial, ⟨Nat.succ_pos _, g48⟩, trivial, trivial, trivial, trivial, ⟨Nat.succ_pos _, g49⟩, trivial, trivial⟩ ?_
        replace h := Option.bind_eq_some_iff.mp h
        obtain ⟨⟨r50, N_50, E_50, F_50, O9_50, ⟨k_50, n_50⟩⟩, hc50, h⟩ := h
        try dsimp only at h
        refine am_ev_call (.invokestatic 66) 128 10 634 [.ref 0, .int (xs ((v4 + (1 : Int32))).toNatClampNeg), .int (xs ((v4 + (2 : Int32))).toNatClampNeg), .int (xs ((v4 + (3 : Int32))).toNatClampNeg), .ref 38] [] rfl rfl rfl rfl (ok_fL_check hc50 D (by omega)) rfl ?_
        by_cases g51 : ((v4 + (1 : Int32)) < 0 ∨ sl ≤ ((v4 + (1 : Int32))).toNatClampNeg)
        · rw [if_pos g51] at h; cases h
        rw [if_neg g51] at h
        by_cases g52 : ((v4 + (2 : Int32)) < 0 ∨ sl ≤ ((v4 + (2 : Int32))).toNatClampNeg)
        · rw [if_pos g52] at h; cases h
        rw [if_neg g52] at h
        by_cases g53 : ((v4 + (3 : Int32)) < 0 ∨ sl ≤ ((v4 + (3 : Int32))).toNatClampNeg)
        · rw [if_pos g53] at h; cases h
        rw [if_neg g53] at h
        refine am_ev_st 17 (f' := (387, [(5, .int r50), (0, .retAddr 0), (1, .ref 0), (2, .ref 19), (3, .ref 38), (4, .int v4)], [.int (xs ((v4 + (3 : Int32))).toNatClampNeg), .int (xs ((v4 + (2 : Int32))).toNatClampNeg), .int (xs ((v4 + (1 : Int32))).toNatClampNeg), .ref 19], (W9 N_50 C E_50 F_50 P Q T G U H B O J V Y Z O9_50), k_50, n_50)) (g := True ∧ True ∧ True ∧ True ∧ True ∧ True ∧ (0 < sl + 1 ∧ vp_in ((v4 + (1 : Int32))) sl) ∧ True ∧ True ∧ True ∧ True ∧ (0 < sl + 1 ∧ vp_in ((v4 + (2 : Int32))) sl) ∧ True ∧ True ∧ True ∧ True ∧ (0 < sl + 1 ∧ vp_in ((v4 + (3 : Int32))) sl) ∧ True) (by with_unfolding_all rfl) ⟨trivial, trivial, trivial, trivial, trivial, trivial, ⟨Nat.succ_pos _, g51⟩, trivial, trivial, trivial, trivial, ⟨Nat.succ_pos _, g52⟩, trivial, trivial, trivial, trivial, ⟨Nat.succ_pos _, g53⟩, trivial⟩ ?_
        replace h := Option.bind_eq_some_iff.mp h
        obtain ⟨⟨r54, U_54, B_54, O_54, J_54, V_54, Y_54, Z_54⟩, hc54, h⟩ := h
        try dsimp only at h
        refine am_ev_call (.invokevirtual 68) 115 6 929 [.ref 19, .int (xs ((v4 + (1 : Int32))).toNatClampNeg), .int (xs ((v4 + (2 : Int32))).toNatClampNeg), .int (xs ((v4 + (3 : Int32))).toNatClampNeg)] [] rfl rfl rfl rfl (ok_fm_check hc54 D (by omega)) rfl ?_
        refine am_ev_st 4 (f' := (23, [(4, .int (v4 + (4 : Int32))), (6, .int (am_bz r54)), (5, .int r50), (0, .retAddr 0), (1, .ref 0), (2, .ref 19), (3, .ref 38)], [], (W9 N_50 C E_50 F_50 P Q T G U_54 H B_54 O_54 J_54 V_54 Y_54 Z_54 O9_50), k_50, n_50)) (g := True ∧ True ∧ True ∧ True ∧ True) (by with_unfolding_all rfl) ⟨trivial, trivial, trivial, trivial, trivial⟩ ?_
        refine am_ev_drop [3, 4, 5, 6, 0] rfl rfl ?_
        exact ih h
      rw [if_neg c46] at h
      refine am_ev_swne c46 ?_
      by_cases c55 : ((xs (v4).toNatClampNeg) &&& (15 : Int32)) = (7 : Int32)
      · rw [if_pos c55] at h
        refine am_ev_sweq c55 ?_
        by_cases g56 : ((v4 + (1 : Int32)) < 0 ∨ sl ≤ ((v4 + (1 : Int32))).toNatClampNeg)
        · rw [if_pos g56] at h; cases h
        rw [if_neg g56] at h
        by_cases g57 : ((v4 + (2 : Int32)) < 0 ∨ sl ≤ ((v4 + (2 : Int32))).toNatClampNeg)
        · rw [if_pos g57] at h; cases h
        rw [if_neg g57] at h
        refine am_ev_st 12 (f' := (409, [(0, .retAddr 0), (1, .ref 0), (2, .ref 19), (3, .ref 38), (4, .int v4)], [.ref 38, .int (xs ((v4 + (2 : Int32))).toNatClampNeg), .int (xs ((v4 + (1 : Int32))).toNatClampNeg), .ref 0], (W9 N C E F P Q T G U H B O J V Y Z O9), k, n)) (g := True ∧ True ∧ True ∧ True ∧ True ∧ (0 < sl + 1 ∧ vp_in ((v4 + (1 : Int32))) sl) ∧ True ∧ True ∧ True ∧ True ∧ (0 < sl + 1 ∧ vp_in ((v4 + (2 : Int32))) sl) ∧ True ∧ True) (by with_unfolding_all rfl) ⟨trivial, trivial, trivial, trivial, trivial, ⟨Nat.succ_pos _, g56⟩, trivial, trivial, trivial, trivial, ⟨Nat.succ_pos _, g57⟩, trivial, trivial⟩ ?_
        replace h := Option.bind_eq_some_iff.mp h
        obtain ⟨⟨r58, N_58, C_58, E_58, F_58, O9_58, ⟨k_58, n_58⟩⟩, hc58, h⟩ := h
        try dsimp only at h
        refine am_ev_call (.invokestatic 69) 129 8 642 [.ref 0, .int (xs ((v4 + (1 : Int32))).toNatClampNeg), .int (xs ((v4 + (2 : Int32))).toNatClampNeg), .ref 38] [] rfl rfl rfl rfl (ok_fL_declare hc58 D (by omega)) rfl ?_
        by_cases g59 : ((v4 + (1 : Int32)) < 0 ∨ sl ≤ ((v4 + (1 : Int32))).toNatClampNeg)
        · rw [if_pos g59] at h; cases h
        rw [if_neg g59] at h
        by_cases g60 : ((v4 + (2 : Int32)) < 0 ∨ sl ≤ ((v4 + (2 : Int32))).toNatClampNeg)
        · rw [if_pos g60] at h; cases h
        rw [if_neg g60] at h
        refine am_ev_st 12 (f' := (427, [(5, .int r58), (0, .retAddr 0), (1, .ref 0), (2, .ref 19), (3, .ref 38), (4, .int v4)], [.int (xs ((v4 + (2 : Int32))).toNatClampNeg), .int (xs ((v4 + (1 : Int32))).toNatClampNeg), .ref 19], (W9 N_58 C_58 E_58 F_58 P Q T G U H B O J V Y Z O9_58), k_58, n_58)) (g := True ∧ True ∧ True ∧ True ∧ True ∧ True ∧ (0 < sl + 1 ∧ vp_in ((v4 + (1 : Int32))) sl) ∧ True ∧ True ∧ True ∧ True ∧ (0 < sl + 1 ∧ vp_in ((v4 + (2 : Int32))) sl) ∧ True) (by with_unfolding_all rfl) ⟨trivial, trivial, trivial, trivial, trivial, trivial, ⟨Nat.succ_pos _, g59⟩, trivial, trivial, trivial, trivial, ⟨Nat.succ_pos _, g60⟩, trivial⟩ ?_
        replace h := Option.bind_eq_some_iff.mp h
        obtain ⟨⟨r61, G_61, U_61, B_61, O_61, J_61, V_61, Y_61, Z_61⟩, hc61, h⟩ := h
        try dsimp only at h
        refine am_ev_call (.invokevirtual 71) 116 4 933 [.ref 19, .int (xs ((v4 + (1 : Int32))).toNatClampNeg), .int (xs ((v4 + (2 : Int32))).toNatClampNeg)] [] rfl rfl rfl rfl (ok_fm_declare hc61 D (by omega)) rfl ?_
        refine am_ev_st 4 (f' := (23, [(4, .int (v4 + (4 : Int32))), (6, .int r61), (5, .int r58), (0, .retAddr 0), (1, .ref 0), (2, .ref 19), (3, .ref 38)], [], (W9 N_58 C_58 E_58 F_58 P Q T G_61 U_61 H B_61 O_61 J_61 V_61 Y_61 Z_61 O9_58), k_58, n_58)) (g := True ∧ True ∧ True ∧ True ∧ True) (by with_unfolding_all rfl) ⟨trivial, trivial, trivial, trivial, trivial⟩ ?_
        refine am_ev_drop [3, 4, 5, 6, 0] rfl rfl ?_
        exact ih h
      rw [if_neg c55] at h
      refine am_ev_swne c55 ?_
      by_cases c62 : ((xs (v4).toNatClampNeg) &&& (15 : Int32)) = (8 : Int32)
      · rw [if_pos c62] at h
        refine am_ev_sweq c62 ?_
        by_cases g63 : ((v4 + (1 : Int32)) < 0 ∨ sl ≤ ((v4 + (1 : Int32))).toNatClampNeg)
        · rw [if_pos g63] at h; cases h
        rw [if_neg g63] at h
        by_cases g64 : ((v4 + (2 : Int32)) < 0 ∨ sl ≤ ((v4 + (2 : Int32))).toNatClampNeg)
        · rw [if_pos g64] at h; cases h
        rw [if_neg g64] at h
        refine am_ev_st 12 (f' := (449, [(0, .retAddr 0), (1, .ref 0), (2, .ref 19), (3, .ref 38), (4, .int v4)], [.ref 38, .int (xs ((v4 + (2 : Int32))).toNatClampNeg), .int (xs ((v4 + (1 : Int32))).toNatClampNeg), .ref 0], (W9 N C E F P Q T G U H B O J V Y Z O9), k, n)) (g := True ∧ True ∧ True ∧ True ∧ True ∧ (0 < sl + 1 ∧ vp_in ((v4 + (1 : Int32))) sl) ∧ True ∧ True ∧ True ∧ True ∧ (0 < sl + 1 ∧ vp_in ((v4 + (2 : Int32))) sl) ∧ True ∧ True) (by with_unfolding_all rfl) ⟨trivial, trivial, trivial, trivial, trivial, ⟨Nat.succ_pos _, g63⟩, trivial, trivial, trivial, trivial, ⟨Nat.succ_pos _, g64⟩, trivial, trivial⟩ ?_
        replace h := Option.bind_eq_some_iff.mp h
        obtain ⟨⟨r65, N_65, C_65, E_65, F_65, Q_65, O9_65, ⟨k_65, n_65⟩⟩, hc65, h⟩ := h
        try dsimp only at h
        refine am_ev_call (.invokestatic 72) 130 8 661 [.ref 0, .int (xs ((v4 + (1 : Int32))).toNatClampNeg), .int (xs ((v4 + (2 : Int32))).toNatClampNeg), .ref 38] [] rfl rfl rfl rfl (ok_fL_define hc65 D (by omega)) rfl ?_
        by_cases g66 : ((v4 + (1 : Int32)) < 0 ∨ sl ≤ ((v4 + (1 : Int32))).toNatClampNeg)
        · rw [if_pos g66] at h; cases h
        rw [if_neg g66] at h
        by_cases g67 : ((v4 + (2 : Int32)) < 0 ∨ sl ≤ ((v4 + (2 : Int32))).toNatClampNeg)
        · rw [if_pos g67] at h; cases h
        rw [if_neg g67] at h
        refine am_ev_st 12 (f' := (467, [(5, .int r65), (0, .retAddr 0), (1, .ref 0), (2, .ref 19), (3, .ref 38), (4, .int v4)], [.int (xs ((v4 + (2 : Int32))).toNatClampNeg), .int (xs ((v4 + (1 : Int32))).toNatClampNeg), .ref 19], (W9 N_65 C_65 E_65 F_65 P Q_65 T G U H B O J V Y Z O9_65), k_65, n_65)) (g := True ∧ True ∧ True ∧ True ∧ True ∧ True ∧ (0 < sl + 1 ∧ vp_in ((v4 + (1 : Int32))) sl) ∧ True ∧ True ∧ True ∧ True ∧ (0 < sl + 1 ∧ vp_in ((v4 + (2 : Int32))) sl) ∧ True) (by with_unfolding_all rfl) ⟨trivial, trivial, trivial, trivial, trivial, trivial, ⟨Nat.succ_pos _, g66⟩, trivial, trivial, trivial, trivial, ⟨Nat.succ_pos _, g67⟩, trivial⟩ ?_
        replace h := Option.bind_eq_some_iff.mp h
        obtain ⟨⟨r68, G_68, U_68, B_68, O_68, J_68, V_68, Y_68, Z_68⟩, hc68, h⟩ := h
        try dsimp only at h
        refine am_ev_call (.invokevirtual 74) 117 4 937 [.ref 19, .int (xs ((v4 + (1 : Int32))).toNatClampNeg), .int (xs ((v4 + (2 : Int32))).toNatClampNeg)] [] rfl rfl rfl rfl (ok_fm_define hc68 D (by omega)) rfl ?_
        refine am_ev_st 4 (f' := (23, [(4, .int (v4 + (4 : Int32))), (6, .int r68), (5, .int r65), (0, .retAddr 0), (1, .ref 0), (2, .ref 19), (3, .ref 38)], [], (W9 N_65 C_65 E_65 F_65 P Q_65 T G_68 U_68 H B_68 O_68 J_68 V_68 Y_68 Z_68 O9_65), k_65, n_65)) (g := True ∧ True ∧ True ∧ True ∧ True) (by with_unfolding_all rfl) ⟨trivial, trivial, trivial, trivial, trivial⟩ ?_
        refine am_ev_drop [3, 4, 5, 6, 0] rfl rfl ?_
        exact ih h
      rw [if_neg c62] at h
      refine am_ev_swne c62 ?_
      by_cases c69 : ((xs (v4).toNatClampNeg) &&& (15 : Int32)) = (9 : Int32)
      · rw [if_pos c69] at h
        refine am_ev_sweq c69 ?_
        refine am_ev_st 1 (f' := (476, [(0, .retAddr 0), (1, .ref 0), (2, .ref 19), (3, .ref 38), (4, .int v4)], [.ref 0], (W9 N C E F P Q T G U H B O J V Y Z O9), k, n)) (g := True ∧ True) (by with_unfolding_all rfl) ⟨trivial, trivial⟩ ?_
        replace h := Option.bind_eq_some_iff.mp h
        obtain ⟨r70, hc70, h⟩ := h
        try dsimp only at h
        refine am_ev_call (.invokevirtual 75) 65 0 276 [.ref 0] [] rfl rfl rfl rfl (ok_fJ_constants hc70 D (by omega)) rfl ?_
        refine am_ev_st 2 (f' := (481, [(0, .retAddr 0), (1, .ref 0), (2, .ref 19), (3, .ref 38), (4, .int v4)], [.ref 19], (W9 N C E F P Q T G U H B O J V Y Z O9), k, n)) (g := True ∧ True ∧ True) (by with_unfolding_all rfl) ⟨trivial, trivial, trivial⟩ ?_
        replace h := Option.bind_eq_some_iff.mp h
        obtain ⟨⟨r71, U_71⟩, hc71, h⟩ := h
        try dsimp only at h
        refine am_ev_call (.invokevirtual 78) 118 0 941 [.ref 19] [] rfl rfl rfl rfl (ok_fm_constants hc71 D (by omega)) rfl ?_
        refine am_ev_st 4 (f' := (23, [(4, .int (v4 + (4 : Int32))), (0, .retAddr 0), (1, .ref 0), (2, .ref 19), (3, .ref 38)], [], (W9 N C E F P Q T G U_71 H B O J V Y Z O9), k, n)) (g := True ∧ True ∧ True ∧ True ∧ True) (by with_unfolding_all rfl) ⟨trivial, trivial, trivial, trivial, trivial⟩ ?_
        refine am_ev_drop [1, 2, 3, 4, 0] rfl rfl ?_
        exact ih h
      rw [if_neg c69] at h
      refine am_ev_swne c69 ?_
      by_cases c72 : ((xs (v4).toNatClampNeg) &&& (15 : Int32)) = (10 : Int32)
      · rw [if_pos c72] at h
        refine am_ev_sweq c72 ?_
        by_cases g73 : ((v4 + (1 : Int32)) < 0 ∨ sl ≤ ((v4 + (1 : Int32))).toNatClampNeg)
        · rw [if_pos g73] at h; cases h
        rw [if_neg g73] at h
        refine am_ev_st 6 (f' := (495, [(0, .retAddr 0), (1, .ref 0), (2, .ref 19), (3, .ref 38), (4, .int v4)], [.int (xs ((v4 + (1 : Int32))).toNatClampNeg), .ref 0], (W9 N C E F P Q T G U H B O J V Y Z O9), k, n)) (g := True ∧ True ∧ True ∧ True ∧ True ∧ (0 < sl + 1 ∧ vp_in ((v4 + (1 : Int32))) sl) ∧ True) (by with_unfolding_all rfl) ⟨trivial, trivial, trivial, trivial, trivial, ⟨Nat.succ_pos _, g73⟩, trivial⟩ ?_
        replace h := Option.bind_eq_some_iff.mp h
        obtain ⟨r74, hc74, h⟩ := h
        try dsimp only at h
        refine am_ev_call (.invokevirtual 79) 66 2 284 [.ref 0, .int (xs ((v4 + (1 : Int32))).toNatClampNeg)] [] rfl rfl rfl rfl (ok_fJ_hasBody hc74 D (by omega)) rfl ?_
        by_cases g75 : ((v4 + (1 : Int32)) < 0 ∨ sl ≤ ((v4 + (1 : Int32))).toNatClampNeg)
        · rw [if_pos g75] at h; cases h
        rw [if_neg g75] at h
        refine am_ev_st 7 (f' := (506, [(0, .retAddr 0), (1, .ref 0), (2, .ref 19), (3, .ref 38), (4, .int v4)], [.int (xs ((v4 + (1 : Int32))).toNatClampNeg), .ref 19], (W9 N C E F P Q T G U H B O J V Y Z O9), k, n)) (g := True ∧ True ∧ True ∧ True ∧ True ∧ True ∧ (0 < sl + 1 ∧ vp_in ((v4 + (1 : Int32))) sl) ∧ True) (by with_unfolding_all rfl) ⟨trivial, trivial, trivial, trivial, trivial, trivial, ⟨Nat.succ_pos _, g75⟩, trivial⟩ ?_
        replace h := Option.bind_eq_some_iff.mp h
        obtain ⟨⟨r76, U_76⟩, hc76, h⟩ := h
        try dsimp only at h
        refine am_ev_call (.invokevirtual 83) 119 2 945 [.ref 19, .int (xs ((v4 + (1 : Int32))).toNatClampNeg)] [] rfl rfl rfl rfl (ok_fm_hasBody hc76 D (by omega)) rfl ?_
        refine am_ev_st 4 (f' := (23, [(4, .int (v4 + (4 : Int32))), (0, .retAddr 0), (1, .ref 0), (2, .ref 19), (3, .ref 38)], [], (W9 N C E F P Q T G U_76 H B O J V Y Z O9), k, n)) (g := True ∧ True ∧ True ∧ True ∧ True) (by with_unfolding_all rfl) ⟨trivial, trivial, trivial, trivial, trivial⟩ ?_
        refine am_ev_drop [1, 2, 3, 4, 0] rfl rfl ?_
        exact ih h
      rw [if_neg c72] at h
      refine am_ev_swne c72 ?_
      by_cases c77 : ((xs (v4).toNatClampNeg) &&& (15 : Int32)) = (11 : Int32)
      · rw [if_pos c77] at h
        refine am_ev_sweq c77 ?_
        by_cases g78 : ((v4 + (1 : Int32)) < 0 ∨ sl ≤ ((v4 + (1 : Int32))).toNatClampNeg)
        · rw [if_pos g78] at h; cases h
        rw [if_neg g78] at h
        refine am_ev_st 6 (f' := (520, [(0, .retAddr 0), (1, .ref 0), (2, .ref 19), (3, .ref 38), (4, .int v4)], [.int (xs ((v4 + (1 : Int32))).toNatClampNeg), .ref 0], (W9 N C E F P Q T G U H B O J V Y Z O9), k, n)) (g := True ∧ True ∧ True ∧ True ∧ True ∧ (0 < sl + 1 ∧ vp_in ((v4 + (1 : Int32))) sl) ∧ True) (by with_unfolding_all rfl) ⟨trivial, trivial, trivial, trivial, trivial, ⟨Nat.succ_pos _, g78⟩, trivial⟩ ?_
        replace h := Option.bind_eq_some_iff.mp h
        obtain ⟨⟨r79, P_79⟩, hc79, h⟩ := h
        try dsimp only at h
        refine am_ev_call (.invokevirtual 84) 67 2 293 [.ref 0, .int (xs ((v4 + (1 : Int32))).toNatClampNeg)] [] rfl rfl rfl rfl (ok_fJ_typeOf hc79 D (by omega)) rfl ?_
        by_cases g80 : ((v4 + (1 : Int32)) < 0 ∨ sl ≤ ((v4 + (1 : Int32))).toNatClampNeg)
        · rw [if_pos g80] at h; cases h
        rw [if_neg g80] at h
        refine am_ev_st 7 (f' := (531, [(0, .retAddr 0), (1, .ref 0), (2, .ref 19), (3, .ref 38), (4, .int v4)], [.int (xs ((v4 + (1 : Int32))).toNatClampNeg), .ref 19], (W9 N C E F P_79 Q T G U H B O J V Y Z O9), k, n)) (g := True ∧ True ∧ True ∧ True ∧ True ∧ True ∧ (0 < sl + 1 ∧ vp_in ((v4 + (1 : Int32))) sl) ∧ True) (by with_unfolding_all rfl) ⟨trivial, trivial, trivial, trivial, trivial, trivial, ⟨Nat.succ_pos _, g80⟩, trivial⟩ ?_
        replace h := Option.bind_eq_some_iff.mp h
        obtain ⟨⟨r81, U_81, H_81, B_81⟩, hc81, h⟩ := h
        try dsimp only at h
        refine am_ev_call (.invokevirtual 88) 120 2 949 [.ref 19, .int (xs ((v4 + (1 : Int32))).toNatClampNeg)] [] rfl rfl rfl rfl (ok_fm_typeOf hc81 D (by omega)) rfl ?_
        refine am_ev_st 4 (f' := (23, [(4, .int (v4 + (4 : Int32))), (0, .retAddr 0), (1, .ref 0), (2, .ref 19), (3, .ref 38)], [], (W9 N C E F P_79 Q T G U_81 H_81 B_81 O J V Y Z O9), k, n)) (g := True ∧ True ∧ True ∧ True ∧ True) (by with_unfolding_all rfl) ⟨trivial, trivial, trivial, trivial, trivial⟩ ?_
        refine am_ev_drop [1, 2, 3, 4, 0] rfl rfl ?_
        exact ih h
      rw [if_neg c77] at h
      refine am_ev_swne c77 ?_
      by_cases c82 : ((xs (v4).toNatClampNeg) &&& (15 : Int32)) = (12 : Int32)
      · rw [if_pos c82] at h
        refine am_ev_sweq c82 ?_
        by_cases g83 : ((v4 + (1 : Int32)) < 0 ∨ sl ≤ ((v4 + (1 : Int32))).toNatClampNeg)
        · rw [if_pos g83] at h; cases h
        rw [if_neg g83] at h
        refine am_ev_st 6 (f' := (545, [(0, .retAddr 0), (1, .ref 0), (2, .ref 19), (3, .ref 38), (4, .int v4)], [.int (xs ((v4 + (1 : Int32))).toNatClampNeg), .ref 0], (W9 N C E F P Q T G U H B O J V Y Z O9), k, n)) (g := True ∧ True ∧ True ∧ True ∧ True ∧ (0 < sl + 1 ∧ vp_in ((v4 + (1 : Int32))) sl) ∧ True) (by with_unfolding_all rfl) ⟨trivial, trivial, trivial, trivial, trivial, ⟨Nat.succ_pos _, g83⟩, trivial⟩ ?_
        replace h := Option.bind_eq_some_iff.mp h
        obtain ⟨r84, hc84, h⟩ := h
        try dsimp only at h
        refine am_ev_call (.invokevirtual 89) 68 2 313 [.ref 0, .int (xs ((v4 + (1 : Int32))).toNatClampNeg)] [] rfl rfl rfl rfl (ok_fJ_mark hc84 D (by omega)) rfl ?_
        by_cases g85 : ((v4 + (1 : Int32)) < 0 ∨ sl ≤ ((v4 + (1 : Int32))).toNatClampNeg)
        · rw [if_pos g85] at h; cases h
        rw [if_neg g85] at h
        refine am_ev_st 7 (f' := (556, [(0, .retAddr 0), (1, .ref 0), (2, .ref 19), (3, .ref 38), (4, .int v4)], [.int (xs ((v4 + (1 : Int32))).toNatClampNeg), .ref 19], (W9 N C E F P Q T G U H B O J V Y Z O9), k, n)) (g := True ∧ True ∧ True ∧ True ∧ True ∧ True ∧ (0 < sl + 1 ∧ vp_in ((v4 + (1 : Int32))) sl) ∧ True) (by with_unfolding_all rfl) ⟨trivial, trivial, trivial, trivial, trivial, trivial, ⟨Nat.succ_pos _, g85⟩, trivial⟩ ?_
        replace h := Option.bind_eq_some_iff.mp h
        obtain ⟨⟨r86, U_86⟩, hc86, h⟩ := h
        try dsimp only at h
        refine am_ev_call (.invokevirtual 92) 121 2 953 [.ref 19, .int (xs ((v4 + (1 : Int32))).toNatClampNeg)] [] rfl rfl rfl rfl (ok_fm_mark hc86 D (by omega)) rfl ?_
        refine am_ev_st 4 (f' := (23, [(4, .int (v4 + (4 : Int32))), (0, .retAddr 0), (1, .ref 0), (2, .ref 19), (3, .ref 38)], [], (W9 N C E F P Q T G U_86 H B O J V Y Z O9), k, n)) (g := True ∧ True ∧ True ∧ True ∧ True) (by with_unfolding_all rfl) ⟨trivial, trivial, trivial, trivial, trivial⟩ ?_
        refine am_ev_drop [1, 2, 3, 4, 0] rfl rfl ?_
        exact ih h
      rw [if_neg c82] at h
      refine am_ev_swne c82 ?_
      by_cases c87 : ((xs (v4).toNatClampNeg) &&& (15 : Int32)) = (13 : Int32)
      · rw [if_pos c87] at h
        refine am_ev_sweq c87 ?_
        refine am_ev_st 1 (f' := (564, [(0, .retAddr 0), (1, .ref 0), (2, .ref 19), (3, .ref 38), (4, .int v4)], [.ref 0], (W9 N C E F P Q T G U H B O J V Y Z O9), k, n)) (g := True ∧ True) (by with_unfolding_all rfl) ⟨trivial, trivial⟩ ?_
        replace h := Option.bind_eq_some_iff.mp h
        obtain ⟨⟨r88, N_88, P_88, ⟨k_88, n_88⟩⟩, hc88, h⟩ := h
        try dsimp only at h
        refine am_ev_call (.invokevirtual 93) 69 0 321 [.ref 0] [] rfl rfl rfl rfl (ok_fJ_keep hc88 D (by omega)) rfl ?_
        refine am_ev_st 2 (f' := (569, [(0, .retAddr 0), (1, .ref 0), (2, .ref 19), (3, .ref 38), (4, .int v4)], [.ref 19], (W9 N_88 C E F P_88 Q T G U H B O J V Y Z O9), k_88, n_88)) (g := True ∧ True ∧ True) (by with_unfolding_all rfl) ⟨trivial, trivial, trivial⟩ ?_
        replace h := Option.bind_eq_some_iff.mp h
        obtain ⟨⟨r89, T_89, U_89, J_89⟩, hc89, h⟩ := h
        try dsimp only at h
        refine am_ev_call (.invokevirtual 96) 123 0 957 [.ref 19] [] rfl rfl rfl rfl (ok_fm_keep hc89 D (by omega)) rfl ?_
        refine am_ev_st 4 (f' := (23, [(4, .int (v4 + (4 : Int32))), (0, .retAddr 0), (1, .ref 0), (2, .ref 19), (3, .ref 38)], [], (W9 N_88 C E F P_88 Q T_89 G U_89 H B O J_89 V Y Z O9), k_88, n_88)) (g := True ∧ True ∧ True ∧ True ∧ True) (by with_unfolding_all rfl) ⟨trivial, trivial, trivial, trivial, trivial⟩ ?_
        refine am_ev_drop [1, 2, 3, 4, 0] rfl rfl ?_
        exact ih h
      rw [if_neg c87] at h
      refine am_ev_swne c87 ?_
      by_cases c90 : ((xs (v4).toNatClampNeg) &&& (15 : Int32)) = (14 : Int32)
      · rw [if_pos c90] at h
        refine am_ev_sweq c90 ?_
        refine am_ev_st 1 (f' := (577, [(0, .retAddr 0), (1, .ref 0), (2, .ref 19), (3, .ref 38), (4, .int v4)], [.ref 0], (W9 N C E F P Q T G U H B O J V Y Z O9), k, n)) (g := True ∧ True) (by with_unfolding_all rfl) ⟨trivial, trivial⟩ ?_
        replace h := Option.bind_eq_some_iff.mp h
        obtain ⟨r91, hc91, h⟩ := h
        try dsimp only at h
        refine am_ev_call (.invokevirtual 97) 70 0 447 [.ref 0] [] rfl rfl rfl rfl (ok_fJ_reduced hc91 D (by omega)) rfl ?_
        refine am_ev_st 2 (f' := (582, [(0, .retAddr 0), (1, .ref 0), (2, .ref 19), (3, .ref 38), (4, .int v4)], [.ref 19], (W9 N C E F P Q T G U H B O J V Y Z O9), k, n)) (g := True ∧ True ∧ True) (by with_unfolding_all rfl) ⟨trivial, trivial, trivial⟩ ?_
        replace h := Option.bind_eq_some_iff.mp h
        obtain ⟨⟨r92, U_92⟩, hc92, h⟩ := h
        try dsimp only at h
        refine am_ev_call (.invokevirtual 100) 124 0 966 [.ref 19] [] rfl rfl rfl rfl (ok_fm_reduced hc92 D (by omega)) rfl ?_
        refine am_ev_st 4 (f' := (23, [(4, .int (v4 + (4 : Int32))), (0, .retAddr 0), (1, .ref 0), (2, .ref 19), (3, .ref 38)], [], (W9 N C E F P Q T G U_92 H B O J V Y Z O9), k, n)) (g := True ∧ True ∧ True ∧ True ∧ True) (by with_unfolding_all rfl) ⟨trivial, trivial, trivial, trivial, trivial⟩ ?_
        refine am_ev_drop [1, 2, 3, 4, 0] rfl rfl ?_
        exact ih h
      rw [if_neg c90] at h
      refine am_ev_swne c90 ?_
      refine am_ev_sw0 ?_
      refine am_ev_st 2 (f' := (23, [(4, .int (v4 + (4 : Int32))), (0, .retAddr 0), (1, .ref 0), (2, .ref 19), (3, .ref 38)], [], (W9 N C E F P Q T G U H B O J V Y Z O9), k, n)) (g := True ∧ True ∧ True) (by with_unfolding_all rfl) ⟨trivial, trivial, trivial⟩ ?_
      refine am_ev_drop [1, 2, 3, 4, 0] rfl rfl ?_
      exact ih h
