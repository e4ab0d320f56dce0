def lp_f_law_23 (sl : Nat) (xs : Nat → Int32) (fl : Nat) (d : Nat) : Nat → cN → cC → cE → cF → cP → cQ → cT → cG → cU → cH → cB → cO → cJ → cV → cY → cZ → cO9 → Nat → Nat → Int32 → Option (Bool × cN × cC × cE × cF × cP × cQ × cT × cG × cU × cH × cB × cO × cJ × cV × cY × cZ × cO9 × (Nat × Nat))
  | 0, _, _, _, _, _, _, _, _, _, _, _, _, _, _, _, _, _, _, _, _ => none
  | w + 1, N, C, E, F, P, Q, T, G, U, H, B, O, J, V, Y, Z, O9, k, n, v4 =>
    if ((Int32.ofNat sl) - (4 : Int32)) < v4 then
    (some (true, N, C, E, F, P, Q, T, G, U, H, B, O, J, V, Y, Z, O9, (k, n)))
    else
    if (v4 < 0 ∨ sl ≤ (v4).toNatClampNeg) then none else
    if ((xs (v4).toNatClampNeg) &&& (15 : Int32)) = (0 : Int32) then
    (if ((v4 + (1 : Int32)) < 0 ∨ sl ≤ ((v4 + (1 : Int32))).toNatClampNeg) then none else
    if ((v4 + (2 : Int32)) < 0 ∨ sl ≤ ((v4 + (2 : Int32))).toNatClampNeg) then none else
    if ((v4 + (3 : Int32)) < 0 ∨ sl ≤ ((v4 + (3 : Int32))).toNatClampNeg) then none else
    (fJ_make N C (xs ((v4 + (1 : Int32))).toNatClampNeg) (xs ((v4 + (2 : Int32))).toNatClampNeg) (xs ((v4 + (3 : Int32))).toNatClampNeg)).bind fun z7 =>
    match z7 with
    | (r7, N_7) =>
    if ((v4 + (1 : Int32)) < 0 ∨ sl ≤ ((v4 + (1 : Int32))).toNatClampNeg) then none else
    if ((v4 + (2 : Int32)) < 0 ∨ sl ≤ ((v4 + (2 : Int32))).toNatClampNeg) then none else
    if ((v4 + (3 : Int32)) < 0 ∨ sl ≤ ((v4 + (3 : Int32))).toNatClampNeg) then none else
    (fm_make T G U (xs ((v4 + (1 : Int32))).toNatClampNeg) (xs ((v4 + (2 : Int32))).toNatClampNeg) (xs ((v4 + (3 : Int32))).toNatClampNeg)).bind fun z11 =>
    match z11 with
    | (r11, T_11, U_11) =>
    lp_f_law_23 sl xs fl d w N_7 C E F P Q T_11 G U_11 H B O J V Y Z O9 k n (v4 + (4 : Int32)))
    else
    if ((xs (v4).toNatClampNeg) &&& (15 : Int32)) = (1 : Int32) then
    ((fJ_terms N).bind fun z13 =>
    match z13 with
    | (r13) =>
    (fm_terms T U).bind fun z14 =>
    match z14 with
    | (r14, U_14) =>
    lp_f_law_23 sl xs fl d w N C E F P Q T G U_14 H B O J V Y Z O9 k n (v4 + (4 : Int32)))
    else
    if ((xs (v4).toNatClampNeg) &&& (15 : Int32)) = (2 : Int32) then
    (if ((v4 + (1 : Int32)) < 0 ∨ sl ≤ ((v4 + (1 : Int32))).toNatClampNeg) then none else
    if ((v4 + (2 : Int32)) < 0 ∨ sl ≤ ((v4 + (2 : Int32))).toNatClampNeg) then none else
    (fJ_term N (xs ((v4 + (1 : Int32))).toNatClampNeg) (xs ((v4 + (2 : Int32))).toNatClampNeg)).bind fun z18 =>
    match z18 with
    | (r18) =>
    if ((v4 + (1 : Int32)) < 0 ∨ sl ≤ ((v4 + (1 : Int32))).toNatClampNeg) then none else
    if ((v4 + (2 : Int32)) < 0 ∨ sl ≤ ((v4 + (2 : Int32))).toNatClampNeg) then none else
    (fm_term T U (xs ((v4 + (1 : Int32))).toNatClampNeg) (xs ((v4 + (2 : Int32))).toNatClampNeg)).bind fun z21 =>
    match z21 with
    | (r21, U_21) =>
    lp_f_law_23 sl xs fl d w N C E F P Q T G U_21 H B O J V Y Z O9 k n (v4 + (4 : Int32)))
    else
    if ((xs (v4).toNatClampNeg) &&& (15 : Int32)) = (3 : Int32) then
    (if ((v4 + (1 : Int32)) < 0 ∨ sl ≤ ((v4 + (1 : Int32))).toNatClampNeg) then none else
    if ((v4 + (2 : Int32)) < 0 ∨ sl ≤ ((v4 + (2 : Int32))).toNatClampNeg) then none else
    (fL_infer fl d N C E F P O9 k n (xs ((v4 + (1 : Int32))).toNatClampNeg) (xs ((v4 + (2 : Int32))).toNatClampNeg)).bind fun z25 =>
    match z25 with
    | (r25, N_25, E_25, F_25, P_25, O9_25, (k_25, n_25)) =>
    if ((v4 + (1 : Int32)) < 0 ∨ sl ≤ ((v4 + (1 : Int32))).toNatClampNeg) then none else
    if ((v4 + (2 : Int32)) < 0 ∨ sl ≤ ((v4 + (2 : Int32))).toNatClampNeg) then none else
    (fm_infer fl T G U H B O J V Y Z (xs ((v4 + (1 : Int32))).toNatClampNeg) (xs ((v4 + (2 : Int32))).toNatClampNeg)).bind fun z28 =>
    match z28 with
    | (r28, U_28, H_28, B_28, O_28, J_28, V_28, Y_28, Z_28) =>
    lp_f_law_23 sl xs fl d w N_25 C E_25 F_25 P_25 Q T G U_28 H_28 B_28 O_28 J_28 V_28 Y_28 Z_28 O9_25 k_25 n_25 (v4 + (4 : Int32)))
    else
    if ((xs (v4).toNatClampNeg) &&& (15 : Int32)) = (4 : Int32) then
    (if ((v4 + (1 : Int32)) < 0 ∨ sl ≤ ((v4 + (1 : Int32))).toNatClampNeg) then none else
    if ((v4 + (2 : Int32)) < 0 ∨ sl ≤ ((v4 + (2 : Int32))).toNatClampNeg) then none else
    (fL_reduce fl d N C E F P O9 k n (xs ((v4 + (1 : Int32))).toNatClampNeg) (xs ((v4 + (2 : Int32))).toNatClampNeg)).bind fun z32 =>
    match z32 with
    | (r32, N_32, E_32, F_32, P_32, O9_32, (k_32, n_32)) =>
    if ((v4 + (1 : Int32)) < 0 ∨ sl ≤ ((v4 + (1 : Int32))).toNatClampNeg) then none else
    if ((v4 + (2 : Int32)) < 0 ∨ sl ≤ ((v4 + (2 : Int32))).toNatClampNeg) then none else
    (fm_reduce fl T G U H B O J V (xs ((v4 + (1 : Int32))).toNatClampNeg) (xs ((v4 + (2 : Int32))).toNatClampNeg)).bind fun z35 =>
    match z35 with
    | (r35, U_35, H_35, B_35, O_35, J_35, V_35) =>
    lp_f_law_23 sl xs fl d w N_32 C E_32 F_32 P_32 Q T G U_35 H_35 B_35 O_35 J_35 V_35 Y Z O9_32 k_32 n_32 (v4 + (4 : Int32)))
    else
    if ((xs (v4).toNatClampNeg) &&& (15 : Int32)) = (5 : Int32) then
    (if ((v4 + (1 : Int32)) < 0 ∨ sl ≤ ((v4 + (1 : Int32))).toNatClampNeg) then none else
    if ((v4 + (2 : Int32)) < 0 ∨ sl ≤ ((v4 + (2 : Int32))).toNatClampNeg) then none else
    if ((v4 + (3 : Int32)) < 0 ∨ sl ≤ ((v4 + (3 : Int32))).toNatClampNeg) then none else
    (fL_same fl d N C E F O9 k n (xs ((v4 + (1 : Int32))).toNatClampNeg) (xs ((v4 + (2 : Int32))).toNatClampNeg) (xs ((v4 + (3 : Int32))).toNatClampNeg)).bind fun z40 =>
    match z40 with
    | (r40, N_40, E_40, F_40, O9_40, (k_40, n_40)) =>
    if ((v4 + (1 : Int32)) < 0 ∨ sl ≤ ((v4 + (1 : Int32))).toNatClampNeg) then none else
    if ((v4 + (2 : Int32)) < 0 ∨ sl ≤ ((v4 + (2 : Int32))).toNatClampNeg) then none else
    if ((v4 + (3 : Int32)) < 0 ∨ sl ≤ ((v4 + (3 : Int32))).toNatClampNeg) then none else
    (fm_same fl T G U B O J V Z (xs ((v4 + (1 : Int32))).toNatClampNeg) (xs ((v4 + (2 : Int32))).toNatClampNeg) (xs ((v4 + (3 : Int32))).toNatClampNeg)).bind fun z44 =>
    match z44 with
    | (r44, U_44, B_44, O_44, J_44, V_44, Z_44) =>
    lp_f_law_23 sl xs fl d w N_40 C E_40 F_40 P Q T G U_44 H B_44 O_44 J_44 V_44 Y Z_44 O9_40 k_40 n_40 (v4 + (4 : Int32)))
    else
    if ((xs (v4).toNatClampNeg) &&& (15 : Int32)) = (6 : Int32) then
    (if ((v4 + (1 : Int32)) < 0 ∨ sl ≤ ((v4 + (1 : Int32))).toNatClampNeg) then none else
    if ((v4 + (2 : Int32)) < 0 ∨ sl ≤ ((v4 + (2 : Int32))).toNatClampNeg) then none else
    if ((v4 + (3 : Int32)) < 0 ∨ sl ≤ ((v4 + (3 : Int32))).toNatClampNeg) then none else
    (fL_check fl d N C E F O9 k n (xs ((v4 + (1 : Int32))).toNatClampNeg) (xs ((v4 + (2 : Int32))).toNatClampNeg) (xs ((v4 + (3 : Int32))).toNatClampNeg)).bind fun z49 =>
    match z49 with
    | (r49, N_49, E_49, F_49, O9_49, (k_49, n_49)) =>
    if ((v4 + (1 : Int32)) < 0 ∨ sl ≤ ((v4 + (1 : Int32))).toNatClampNeg) then none else
    if ((v4 + (2 : Int32)) < 0 ∨ sl ≤ ((v4 + (2 : Int32))).toNatClampNeg) then none else
    if ((v4 + (3 : Int32)) < 0 ∨ sl ≤ ((v4 + (3 : Int32))).toNatClampNeg) then none else
    (fm_check fl T G U B O J V Y Z (xs ((v4 + (1 : Int32))).toNatClampNeg) (xs ((v4 + (2 : Int32))).toNatClampNeg) (xs ((v4 + (3 : Int32))).toNatClampNeg)).bind fun z53 =>
    match z53 with
    | (r53, U_53, B_53, O_53, J_53, V_53, Y_53, Z_53) =>
    (fm_thrown U_53).bind fun z54 =>
    match z54 with
    | (r54) =>
    if r54 = r49 then
    (if r49 ≠ 0 then
    (lp_f_law_23 sl xs fl d w N_49 C E_49 F_49 P Q T G U_53 H B_53 O_53 J_53 V_53 Y_53 Z_53 O9_49 k_49 n_49 (v4 + (4 : Int32)))
    else
    if ((0 : Int32) < 0 ∨ 1 ≤ ((0 : Int32)).toNatClampNeg) then none else
    if (am_bz r53) = 0 then
    (if (lg_cmp (O9_49 ((0 : Int32)).toNatClampNeg) 0) = 0 then
    (lp_f_law_23 sl xs fl d w N_49 C E_49 F_49 P Q T G U_53 H B_53 O_53 J_53 V_53 Y_53 Z_53 O9_49 k_49 n_49 (v4 + (4 : Int32)))
    else
    some (false, N_49, C, E_49, F_49, P, Q, T, G, U_53, H, B_53, O_53, J_53, V_53, Y_53, Z_53, O9_49, (k_49, n_49)))
    else
    if (lg_cmp (O9_49 ((0 : Int32)).toNatClampNeg) 1) = 0 then
    (lp_f_law_23 sl xs fl d w N_49 C E_49 F_49 P Q T G U_53 H B_53 O_53 J_53 V_53 Y_53 Z_53 O9_49 k_49 n_49 (v4 + (4 : Int32)))
    else
    some (false, N_49, C, E_49, F_49, P, Q, T, G, U_53, H, B_53, O_53, J_53, V_53, Y_53, Z_53, O9_49, (k_49, n_49)))
    else
    some (false, N_49, C, E_49, F_49, P, Q, T, G, U_53, H, B_53, O_53, J_53, V_53, Y_53, Z_53, O9_49, (k_49, n_49)))
    else
    if ((xs (v4).toNatClampNeg) &&& (15 : Int32)) = (7 : Int32) then
    (if ((v4 + (1 : Int32)) < 0 ∨ sl ≤ ((v4 + (1 : Int32))).toNatClampNeg) then none else
    if ((v4 + (2 : Int32)) < 0 ∨ sl ≤ ((v4 + (2 : Int32))).toNatClampNeg) then none else
    (fL_declare fl d N C E F O9 k n (xs ((v4 + (1 : Int32))).toNatClampNeg) (xs ((v4 + (2 : Int32))).toNatClampNeg)).bind fun z64 =>
    match z64 with
    | (r64, N_64, C_64, E_64, F_64, O9_64, (k_64, n_64)) =>
    if ((v4 + (1 : Int32)) < 0 ∨ sl ≤ ((v4 + (1 : Int32))).toNatClampNeg) then none else
    if ((v4 + (2 : Int32)) < 0 ∨ sl ≤ ((v4 + (2 : Int32))).toNatClampNeg) then none else
    (fm_declare fl T G U B O J V Y Z (xs ((v4 + (1 : Int32))).toNatClampNeg) (xs ((v4 + (2 : Int32))).toNatClampNeg)).bind fun z67 =>
    match z67 with
    | (r67, G_67, U_67, B_67, O_67, J_67, V_67, Y_67, Z_67) =>
    lp_f_law_23 sl xs fl d w N_64 C_64 E_64 F_64 P Q T G_67 U_67 H B_67 O_67 J_67 V_67 Y_67 Z_67 O9_64 k_64 n_64 (v4 + (4 : Int32)))
    else
    if ((xs (v4).toNatClampNeg) &&& (15 : Int32)) = (8 : Int32) then
    (if ((v4 + (1 : Int32)) < 0 ∨ sl ≤ ((v4 + (1 : Int32))).toNatClampNeg) then none else
    if ((v4 + (2 : Int32)) < 0 ∨ sl ≤ ((v4 + (2 : Int32))).toNatClampNeg) then none else
    (fL_define fl d N C E F Q O9 k n (xs ((v4 + (1 : Int32))).toNatClampNeg) (xs ((v4 + (2 : Int32))).toNatClampNeg)).bind fun z71 =>
    match z71 with
    | (r71, N_71, C_71, E_71, F_71, Q_71, O9_71, (k_71, n_71)) =>
    if ((v4 + (1 : Int32)) < 0 ∨ sl ≤ ((v4 + (1 : Int32))).toNatClampNeg) then none else
    if ((v4 + (2 : Int32)) < 0 ∨ sl ≤ ((v4 + (2 : Int32))).toNatClampNeg) then none else
    (fm_define fl T G U B O J V Y Z (xs ((v4 + (1 : Int32))).toNatClampNeg) (xs ((v4 + (2 : Int32))).toNatClampNeg)).bind fun z74 =>
    match z74 with
    | (r74, G_74, U_74, B_74, O_74, J_74, V_74, Y_74, Z_74) =>
    lp_f_law_23 sl xs fl d w N_71 C_71 E_71 F_71 P Q_71 T G_74 U_74 H B_74 O_74 J_74 V_74 Y_74 Z_74 O9_71 k_71 n_71 (v4 + (4 : Int32)))
    else
    if ((xs (v4).toNatClampNeg) &&& (15 : Int32)) = (9 : Int32) then
    ((fJ_constants C).bind fun z76 =>
    match z76 with
    | (r76) =>
    (fm_constants G U).bind fun z77 =>
    match z77 with
    | (r77, U_77) =>
    lp_f_law_23 sl xs fl d w N C E F P Q T G U_77 H B O J V Y Z O9 k n (v4 + (4 : Int32)))
    else
    if ((xs (v4).toNatClampNeg) &&& (15 : Int32)) = (10 : Int32) then
    (if ((v4 + (1 : Int32)) < 0 ∨ sl ≤ ((v4 + (1 : Int32))).toNatClampNeg) then none else
    (fJ_hasBody C (xs ((v4 + (1 : Int32))).toNatClampNeg)).bind fun z80 =>
    match z80 with
    | (r80) =>
    if ((v4 + (1 : Int32)) < 0 ∨ sl ≤ ((v4 + (1 : Int32))).toNatClampNeg) then none else
    (fm_hasBody G U (xs ((v4 + (1 : Int32))).toNatClampNeg)).bind fun z82 =>
    match z82 with
    | (r82, U_82) =>
    lp_f_law_23 sl xs fl d w N C E F P Q T G U_82 H B O J V Y Z O9 k n (v4 + (4 : Int32)))
    else
    if ((xs (v4).toNatClampNeg) &&& (15 : Int32)) = (11 : Int32) then
    (if ((v4 + (1 : Int32)) < 0 ∨ sl ≤ ((v4 + (1 : Int32))).toNatClampNeg) then none else
    (fJ_typeOf d N C P (xs ((v4 + (1 : Int32))).toNatClampNeg)).bind fun z85 =>
    match z85 with
    | (r85, P_85) =>
    if ((v4 + (1 : Int32)) < 0 ∨ sl ≤ ((v4 + (1 : Int32))).toNatClampNeg) then none else
    (fm_typeOf fl G U H B (xs ((v4 + (1 : Int32))).toNatClampNeg)).bind fun z87 =>
    match z87 with
    | (r87, U_87, H_87, B_87) =>
    lp_f_law_23 sl xs fl d w N C E F P_85 Q T G U_87 H_87 B_87 O J V Y Z O9 k n (v4 + (4 : Int32)))
    else
    if ((xs (v4).toNatClampNeg) &&& (15 : Int32)) = (12 : Int32) then
    (if ((v4 + (1 : Int32)) < 0 ∨ sl ≤ ((v4 + (1 : Int32))).toNatClampNeg) then none else
    (fJ_mark P (xs ((v4 + (1 : Int32))).toNatClampNeg)).bind fun z90 =>
    match z90 with
    | (r90) =>
    if ((v4 + (1 : Int32)) < 0 ∨ sl ≤ ((v4 + (1 : Int32))).toNatClampNeg) then none else
    (fm_mark U H B (xs ((v4 + (1 : Int32))).toNatClampNeg)).bind fun z92 =>
    match z92 with
    | (r92, U_92) =>
    lp_f_law_23 sl xs fl d w N C E F P Q T G U_92 H B O J V Y Z O9 k n (v4 + (4 : Int32)))
    else
    if ((xs (v4).toNatClampNeg) &&& (15 : Int32)) = (13 : Int32) then
    ((fJ_keep fl d N P k n).bind fun z94 =>
    match z94 with
    | (r94, N_94, P_94, (k_94, n_94)) =>
    (fm_keep fl T G U H B J).bind fun z95 =>
    match z95 with
    | (r95, T_95, U_95, J_95) =>
    lp_f_law_23 sl xs fl d w N_94 C E F P_94 Q T_95 G U_95 H B O J_95 V Y Z O9 k_94 n_94 (v4 + (4 : Int32)))
    else
    if ((xs (v4).toNatClampNeg) &&& (15 : Int32)) = (14 : Int32) then
    ((fJ_reduced E).bind fun z97 =>
    match z97 with
    | (r97) =>
    (fm_reduced U V).bind fun z98 =>
    match z98 with
    | (r98, U_98) =>
    lp_f_law_23 sl xs fl d w N C E F P Q T G U_98 H B O J V Y Z O9 k n (v4 + (4 : Int32)))
    else
    lp_f_law_23 sl xs fl d w N C E F P Q T G U H B O J V Y Z O9 k n (v4 + (4 : Int32))
set_option maxHeartbeats 4000000 in
set_option maxRecDepth 100000 in
theorem ok_lp_f_law_23 {sl : Nat} {xs : Nat → Int32} {fl d : Nat} : ∀ {w : Nat} {N : cN} {C : cC} {E : cE} {F : cF} {P : cP} {Q : cQ} {T : cT} {G : cG} {U : cU} {H : cH} {B : cB} {O : cO} {J : cJ} {V : cV} {Y : cY} {Z : cZ} {O9 : cO9} {k n : Nat} {v4 : Int32} {rv : Bool} {N' : cN} {C' : cC} {E' : cE} {F' : cF} {P' : cP} {Q' : cQ} {T' : cT} {G' : cG} {U' : cU} {H' : cH} {B' : cB} {O' : cO} {J' : cJ} {V' : cV} {Y' : cY} {Z' : cZ} {O9' : cO9} {k' n' : Nat} (h : lp_f_law_23 sl xs fl d w N C E F P Q T G U H B O J V Y Z O9 k n v4 = some (rv, N', C', E', F', P', Q', T', G', U', H', B', O', J', V', Y', Z', O9', (k', n'))) (D : Nat) (hD : d + 8 ≤ D), am_Ev D 132 (sl + 1) xs (23, [(0, .retAddr 0), (1, .ref 0), (2, .ref 19), (3, .ref 38), (4, .int v4)], [], (W9 N C E F P Q T G U H B O J V Y Z O9), k, n) (.inl (some (.int (am_bz rv))), W9 N' C' E' F' P' Q' T' G' U' H' B' O' J' V' Y' Z' O9', k', n') := by
  intro w
  induction w with
  | zero => intros; rename_i h _ _; cases h
  | succ w ih0 =>
    intro N C E F P Q T G U H B O J V Y Z O9 k n v4 rv N' C' E' F' P' Q' T' G' U' H' B' O' J' V' Y' Z' O9' k' n' h D hD
    have ih := fun {N} {C} {E} {F} {P} {Q} {T} {G} {U} {H} {B} {O} {J} {V} {Y} {Z} {O9} {k} {n} {v4} {rv} {N'} {C'} {E'} {F'} {P'} {Q'} {T'} {G'} {U'} {H'} {B'} {O'} {J'} {V'} {Y'} {Z'} {O9'} {k'} {n'} h => @ih0 N C E F P Q T G U H B O J V Y Z O9 k n v4 rv N' C' E' F' P' Q' T' G' U' H' B' O' J' V' Y' Z' O9' k' n' h D hD
    unfold lp_f_law_23 at h
    refine am_ev_st 6 (f' := am_br (((Int32.ofNat sl) - (4 : Int32)) < v4) 630 29 [(0, .retAddr 0), (1, .ref 0), (2, .ref 19), (3, .ref 38), (4, .int v4)] [] (W9 N C E F P Q T G U H B O J V Y Z O9) k n) (g := True ∧ True ∧ 0 < sl + 1 ∧ True ∧ True ∧ True ∧ True) (by with_unfolding_all rfl) ⟨trivial, trivial, Nat.succ_pos _, trivial, trivial, trivial, trivial⟩ ?_
    by_cases c1 : ((Int32.ofNat sl) - (4 : Int32)) < v4
    · rw [if_pos c1] at h
      refine am_ev_pos c1 ?_
      refine am_ev_st 1 (f' := (631, [(0, .retAddr 0), (1, .ref 0), (2, .ref 19), (3, .ref 38), (4, .int v4)], [.int (1 : Int32)], (W9 N C E F P Q T G U H B O J V Y Z O9), k, n)) (g := True ∧ True) (by with_unfolding_all rfl) ⟨trivial, trivial⟩ ?_
      cases h
      exact am_ev_ret 0 0 0 rfl .boolean rfl am_n1 rfl
    · rw [if_neg c1] at h
      refine am_ev_neg c1 ?_
      by_cases g2 : (v4 < 0 ∨ sl ≤ (v4).toNatClampNeg)
      · rw [if_pos g2] at h; cases h
      rw [if_neg g2] at h
      refine am_ev_st 6 (f' := ((am_tg [(0, 112), (1, 161), (2, 174), (3, 211), (4, 251), (5, 291), (6, 343), (7, 430), (8, 470), (9, 510), (10, 523), (11, 548), (12, 573), (13, 598), (14, 611)] 624 ((xs (v4).toNatClampNeg) &&& (15 : Int32))), [(0, .retAddr 0), (1, .ref 0), (2, .ref 19), (3, .ref 38), (4, .int v4)], [], (W9 N C E F P Q T G U H B O J V Y Z O9), k, n)) (g := True ∧ True ∧ (0 < sl + 1 ∧ vp_in (v4) sl) ∧ True ∧ True ∧ True ∧ True) (by with_unfolding_all rfl) ⟨trivial, trivial, ⟨Nat.succ_pos _, g2⟩, trivial, trivial, trivial, trivial⟩ ?_
      by_cases c3 : ((xs (v4).toNatClampNeg) &&& (15 : Int32)) = (0 : Int32)
      · rw [if_pos c3] at h
        refine am_ev_sweq c3 ?_
        by_cases g4 : ((v4 + (1 : Int32)) < 0 ∨ sl ≤ ((v4 + (1 : Int32))).toNatClampNeg)
        · rw [if_pos g4] at h; cases h
        rw [if_neg g4] at h
        by_cases g5 : ((v4 + (2 : Int32)) < 0 ∨ sl ≤ ((v4 + (2 : Int32))).toNatClampNeg)
        · rw [if_pos g5] at h; cases h
        rw [if_neg g5] at h
        by_cases g6 : ((v4 + (3 : Int32)) < 0 ∨ sl ≤ ((v4 + (3 : Int32))).toNatClampNeg)
        · rw [if_pos g6] at h; cases h
        rw [if_neg g6] at h
        refine am_ev_st 16 (f' := (131, [(0, .retAddr 0), (1, .ref 0), (2, .ref 19), (3, .ref 38), (4, .int v4)], [.int (xs ((v4 + (3 : Int32))).toNatClampNeg), .int (xs ((v4 + (2 : Int32))).toNatClampNeg), .int (xs ((v4 + (1 : Int32))).toNatClampNeg), .ref 0], (W9 N C E F P Q T G U H B O J V Y Z O9), k, n)) (g := True ∧ True ∧ True ∧ True ∧ True ∧ (0 < sl + 1 ∧ vp_in ((v4 + (1 : Int32))) sl) ∧ True ∧ True ∧ True ∧ True ∧ (0 < sl + 1 ∧ vp_in ((v4 + (2 : Int32))) sl) ∧ True ∧ True ∧ True ∧ True ∧ (0 < sl + 1 ∧ vp_in ((v4 + (3 : Int32))) sl) ∧ True) (by with_unfolding_all rfl) ⟨trivial, trivial, trivial, trivial, trivial, ⟨Nat.succ_pos _, g4⟩, trivial, trivial, trivial, trivial, ⟨Nat.succ_pos _, g5⟩, trivial, trivial, trivial, trivial, ⟨Nat.succ_pos _, g6⟩, trivial⟩ ?_
        replace h := Option.bind_eq_some_iff.mp h
        obtain ⟨⟨r7, N_7⟩, hc7, h⟩ := h
        try dsimp only at h
        refine am_ev_call (.invokevirtual 39) 56 6 208 [.ref 0, .int (xs ((v4 + (1 : Int32))).toNatClampNeg), .int (xs ((v4 + (2 : Int32))).toNatClampNeg), .int (xs ((v4 + (3 : Int32))).toNatClampNeg)] [] rfl rfl rfl rfl (ok_fJ_make hc7 D (by omega)) rfl ?_
        by_cases g8 : ((v4 + (1 : Int32)) < 0 ∨ sl ≤ ((v4 + (1 : Int32))).toNatClampNeg)
        · rw [if_pos g8] at h; cases h
        rw [if_neg g8] at h
        by_cases g9 : ((v4 + (2 : Int32)) < 0 ∨ sl ≤ ((v4 + (2 : Int32))).toNatClampNeg)
        · rw [if_pos g9] at h; cases h
        rw [if_neg g9] at h
        by_cases g10 : ((v4 + (3 : Int32)) < 0 ∨ sl ≤ ((v4 + (3 : Int32))).toNatClampNeg)
        · rw [if_pos g10] at h; cases h
        rw [if_neg g10] at h
        refine am_ev_st 17 (f' := (154, [(0, .retAddr 0), (1, .ref 0), (2, .ref 19), (3, .ref 38), (4, .int v4)], [.int (xs ((v4 + (3 : Int32))).toNatClampNeg), .int (xs ((v4 + (2 : Int32))).toNatClampNeg), .int (xs ((v4 + (1 : Int32))).toNatClampNeg), .ref 19], (W9 N_7 C E F P Q T G U H B O J V Y Z O9), k, n)) (g := True ∧ True ∧ True ∧ True ∧ True ∧ True ∧ (0 < sl + 1 ∧ vp_in ((v4 + (1 : Int32))) sl) ∧ True ∧ True ∧ True ∧ True ∧ (0 < sl + 1 ∧ vp_in ((v4 + (2 : Int32))) sl) ∧ True ∧ True ∧ True ∧ True ∧ (0 < sl + 1 ∧ vp_in ((v4 + (3 : Int32))) sl) ∧ True) (by with_unfolding_all rfl) ⟨trivial, trivial, trivial, trivial, trivial, trivial, ⟨Nat.succ_pos _, g8⟩, trivial, trivial, trivial, trivial, ⟨Nat.succ_pos _, g9⟩, trivial, trivial, trivial, trivial, ⟨Nat.succ_pos _, g10⟩, trivial⟩ ?_
        replace h := Option.bind_eq_some_iff.mp h
        obtain ⟨⟨r11, T_11, U_11⟩, hc11, h⟩ := h
        try dsimp only at h
        refine am_ev_call (.invokevirtual 43) 106 6 784 [.ref 19, .int (xs ((v4 + (1 : Int32))).toNatClampNeg), .int (xs ((v4 + (2 : Int32))).toNatClampNeg), .int (xs ((v4 + (3 : Int32))).toNatClampNeg)] [] rfl rfl rfl rfl (ok_fm_make hc11 D (by omega)) rfl ?_
        refine am_ev_st 4 (f' := (23, [(4, .int (v4 + (4 : Int32))), (0, .retAddr 0), (1, .ref 0), (2, .ref 19), (3, .ref 38)], [], (W9 N_7 C E F P Q T_11 G U_11 H B O J V Y Z O9), k, n)) (g := True ∧ True ∧ True ∧ True ∧ True) (by with_unfolding_all rfl) ⟨trivial, trivial, trivial, trivial, trivial⟩ ?_
        refine am_ev_drop [1, 2, 3, 4, 0] rfl rfl ?_
        exact ih h
      rw [if_neg c3] at h
      refine am_ev_swne c3 ?_
      by_cases c12 : ((xs (v4).toNatClampNeg) &&& (15 : Int32)) = (1 : Int32)
      · rw [if_pos c12] at h
        refine am_ev_sweq c12 ?_
        refine am_ev_st 1 (f' := (162, [(0, .retAddr 0), (1, .ref 0), (2, .ref 19), (3, .ref 38), (4, .int v4)], [.ref 0], (W9 N C E F P Q T G U H B O J V Y Z O9), k, n)) (g := True ∧ True) (by with_unfolding_all rfl) ⟨trivial, trivial⟩ ?_
        replace h := Option.bind_eq_some_iff.mp h
        obtain ⟨r13, hc13, h⟩ := h
        try dsimp only at h
        refine am_ev_call (.invokevirtual 44) 57 0 250 [.ref 0] [] rfl rfl rfl rfl (ok_fJ_terms hc13 D (by omega)) rfl ?_
        refine am_ev_st 2 (f' := (167, [(0, .retAddr 0), (1, .ref 0), (2, .ref 19), (3, .ref 38), (4, .int v4)], [.ref 19], (W9 N C E F P Q T G U H B O J V Y Z O9), k, n)) (g := True ∧ True ∧ True) (by with_unfolding_all rfl) ⟨trivial, trivial, trivial⟩ ?_
        replace h := Option.bind_eq_some_iff.mp h
        obtain ⟨⟨r14, U_14⟩, hc14, h⟩ := h
        try dsimp only at h
        refine am_ev_call (.invokevirtual 48) 107 0 788 [.ref 19] [] rfl rfl rfl rfl (ok_fm_terms hc14 D (by omega)) rfl ?_
        refine am_ev_st 4 (f' := (23, [(4, .int (v4 + (4 : Int32))), (0, .retAddr 0), (1, .ref 0), (2, .ref 19), (3, .ref 38)], [], (W9 N C E F P Q T G U_14 H B O J V Y Z O9), k, n)) (g := True ∧ True ∧ True ∧ True ∧ True) (by with_unfolding_all rfl) ⟨trivial, trivial, trivial, trivial, trivial⟩ ?_
        refine am_ev_drop [1, 2, 3, 4, 0] rfl rfl ?_
        exact ih h
      rw [if_neg c12] at h
      refine am_ev_swne c12 ?_
      by_cases c15 : ((xs (v4).toNatClampNeg) &&& (15 : Int32)) = (2 : Int32)
      · rw [if_pos c15] at h
        refine am_ev_sweq c15 ?_
        by_cases g16 : ((v4 + (1 : Int32)) < 0 ∨ sl ≤ ((v4 + (1 : Int32))).toNatClampNeg)
        · rw [if_pos g16] at h; cases h
        rw [if_neg g16] at h
        by_cases g17 : ((v4 + (2 : Int32)) < 0 ∨ sl ≤ ((v4 + (2 : Int32))).toNatClampNeg)
        · rw [if_pos g17] at h; cases h
        rw [if_neg g17] at h
        refine am_ev_st 11 (f' := (187, [(0, .retAddr 0), (1, .ref 0), (2, .ref 19), (3, .ref 38), (4, .int v4)], [.int (xs ((v4 + (2 : Int32))).toNatClampNeg), .int (xs ((v4 + (1 : Int32))).toNatClampNeg), .ref 0], (W9 N C E F P Q T G U H B O J V Y Z O9), k, n)) (g := True ∧ True ∧ True ∧ True ∧ True ∧ (0 < sl + 1 ∧ vp_in ((v4 + (1 : Int32))) sl) ∧ True ∧ True ∧ True ∧ True ∧ (0 < sl + 1 ∧ vp_in ((v4 + (2 : Int32))) sl) ∧ True) (by with_unfolding_all rfl) ⟨trivial, trivial, trivial, trivial, trivial, ⟨Nat.succ_pos _, g16⟩, trivial, trivial, trivial, trivial, ⟨Nat.succ_pos _, g17⟩, trivial⟩ ?_
        replace h := Option.bind_eq_some_iff.mp h
        obtain ⟨r18, hc18, h⟩ := h
        try dsimp only at h
        refine am_ev_call (.invokevirtual 49) 58 4 258 [.ref 0, .int (xs ((v4 + (1 : Int32))).toNatClampNeg), .int (xs ((v4 + (2 : Int32))).toNatClampNeg)] [] rfl rfl rfl rfl (ok_fJ_term hc18 D (by omega)) rfl ?_
        by_cases g19 : ((v4 + (1 : Int32)) < 0 ∨ sl ≤ ((v4 + (1 : Int32))).toNatClampNeg)
        · rw [if_pos g19] at h; cases h
        rw [if_neg g19] at h
        by_cases g20 : ((v4 + (2 : Int32)) < 0 ∨ sl ≤ ((v4 + (2 : Int32))).toNatClampNeg)
        · rw [if_pos g20] at h; cases h
        rw [if_neg g20] at h
        refine am_ev_st 12 (f' := (204, [(0, .retAddr 0), (1, .ref 0), (2, .ref 19), (3, .ref 38), (4, .int v4)], [.int (xs ((v4 + (2 : Int32))).toNatClampNeg), .int (xs ((v4 + (1 : Int32))).toNatClampNeg), .ref 19], (W9 N C E F P Q T G U H B O J V Y Z O9), k, n)) (g := True ∧ True ∧ True ∧ True ∧ True ∧ True ∧ (0 < sl + 1 ∧ vp_in ((v4 + (1 : Int32))) sl) ∧ True ∧ True ∧ True ∧ True ∧ (0 < sl + 1 ∧ vp_in ((v4 + (2 : Int32))) sl) ∧ True) (by with_unfolding_all rfl) ⟨trivial, trivial, trivial, trivial, trivial, trivial, ⟨Nat.succ_pos _, g19⟩, trivial, trivial, trivial, trivial, ⟨Nat.succ_pos _, g20⟩, trivial⟩ ?_
        replace h := Option.bind_eq_some_iff.mp h
        obtain ⟨⟨r21, U_21⟩, hc21, h⟩ := h
        try dsimp only at h
        refine am_ev_call (.invokevirtual 52) 109 4 792 [.ref 19, .int (xs ((v4 + (1 : Int32))).toNatClampNeg), .int (xs ((v4 + (2 : Int32))).toNatClampNeg)] [] rfl rfl rfl rfl (ok_fm_term hc21 D (by omega)) rfl ?_
        refine am_ev_st 4 (f' := (23, [(4, .int (v4 + (4 : Int32))), (0, .retAddr 0), (1, .ref 0), (2, .ref 19), (3, .ref 38)], [], (W9 N C E F P Q T G U_21 H B O J V Y Z O9), k, n)) (g := True ∧ True ∧ True ∧ True ∧ True) (by with_unfolding_all rfl) ⟨trivial, trivial, trivial, trivial, trivial⟩ ?_
        refine am_ev_drop [1, 2, 3, 4, 0] rfl rfl ?_
        exact ih h
      rw [if_neg c15] at h
      refine am_ev_swne c15 ?_
      by_cases c22 : ((xs (v4).toNatClampNeg) &&& (15 : Int32)) = (3 : Int32)
      · rw [if_pos c22] at h
        refine am_ev_sweq c22 ?_
        by_cases g23 : ((v4 + (1 : Int32)) < 0 ∨ sl ≤ ((v4 + (1 : Int32))).toNatClampNeg)
        · rw [if_pos g23] at h; cases h
        rw [if_neg g23] at h
        by_cases g24 : ((v4 + (2 : Int32)) < 0 ∨ sl ≤ ((v4 + (2 : Int32))).toNatClampNeg)
        · rw [if_pos g24] at h; cases h
        rw [if_neg g24] at h
        refine am_ev_st 12 (f' := (225, [(0, .retAddr 0), (1, .ref 0), (2, .ref 19), (3, .ref 38), (4, .int v4)], [.ref 38, .int (xs ((v4 + (2 : Int32))).toNatClampNeg), .int (xs ((v4 + (1 : Int32))).toNatClampNeg), .ref 0], (W9 N C E F P Q T G U H B O J V Y Z O9), k, n)) (g := True ∧ True ∧ True ∧ True ∧ True ∧ (0 < sl + 1 ∧ vp_in ((v4 + (1 : Int32))) sl) ∧ True ∧ True ∧ True ∧ True ∧ (0 < sl + 1 ∧ vp_in ((v4 + (2 : Int32))) sl) ∧ True ∧ True) (by with_unfolding_all rfl) ⟨trivial, trivial, trivial, trivial, trivial, ⟨Nat.succ_pos _, g23⟩, trivial, trivial, trivial, trivial, ⟨Nat.succ_pos _, g24⟩, trivial, trivial⟩ ?_
        replace h := Option.bind_eq_some_iff.mp h
        obtain ⟨⟨r25, N_25, E_25, F_25, P_25, O9_25, ⟨k_25, n_25⟩⟩, hc25, h⟩ := h
        try dsimp only at h
        refine am_ev_call (.invokestatic 53) 126 8 455 [.ref 0, .int (xs ((v4 + (1 : Int32))).toNatClampNeg), .int (xs ((v4 + (2 : Int32))).toNatClampNeg), .ref 38] [] rfl rfl rfl rfl (ok_fL_infer hc25 D (by omega)) rfl ?_
        by_cases g26 : ((v4 + (1 : Int32)) < 0 ∨ sl ≤ ((v4 + (1 : Int32))).toNatClampNeg)
        · rw [if_pos g26] at h; cases h
        rw [if_neg g26] at h
        by_cases g27 : ((v4 + (2 : Int32)) < 0 ∨ sl ≤ ((v4 + (2 : Int32))).toNatClampNeg)
        · rw [if_pos g27] at h; cases h
        rw [if_neg g27] at h
        refine am_ev_st 12 (f' := (243, [(5, .int r25), (0, .retAddr 0), (1, .ref 0), (2, .ref 19), (3, .ref 38), (4, .int v4)], [.int (xs ((v4 + (2 : Int32))).toNatClampNeg), .int (xs ((v4 + (1 : Int32))).toNatClampNeg), .ref 19], (W9 N_25 C E_25 F_25 P_25 Q T G U H B O J V Y Z O9_25), k_25, n_25)) (g := True ∧ True ∧ True ∧ True ∧ True ∧ True ∧ (0 < sl + 1 ∧ vp_in ((v4 + (1 : Int32))) sl) ∧ True ∧ True ∧ True ∧ True ∧ (0 < sl + 1 ∧ vp_in ((v4 + (2 : Int32))) sl) ∧ True) (by with_unfolding_all rfl) ⟨trivial, trivial, trivial, trivial, trivial, trivial, ⟨Nat.succ_pos _, g26⟩, trivial, trivial, trivial, trivial, ⟨Nat.succ_pos _, g27⟩, trivial⟩ ?_
        replace h := Option.bind_eq_some_iff.mp h
        obtain ⟨⟨r28, U_28, H_28, B_28, O_28, J_28, V_28, Y_28, Z_28⟩, hc28, h⟩ := h
        try dsimp only at h
        refine am_ev_call (.invokevirtual 58) 113 4 800 [.ref 19, .int (xs ((v4 + (1 : Int32))).toNatClampNeg), .int (xs ((v4 + (2 : Int32))).toNatClampNeg)] [] rfl rfl rfl rfl (ok_fm_infer hc28 D (by omega)) rfl ?_
        refine am_ev_st 4 (f' := (23, [(4, .int (v4 + (4 : Int32))), (6, .int r28), (5, .int r25), (0, .retAddr 0), (1, .ref 0), (2, .ref 19), (3, .ref 38)], [], (W9 N_25 C E_25 F_25 P_25 Q T G U_28 H_28 B_28 O_28 J_28 V_28 Y_28 Z_28 O9_25), k_25, n_25)) (g := True ∧ True ∧ True ∧ True ∧ True) (by with_unfolding_all rfl) ⟨trivial, trivial, trivial, trivial, trivial⟩ ?_
        refine am_ev_drop [3, 4, 5, 6, 0] rfl rfl ?_
        exact ih h
      rw [if_neg c22] at h
      refine am_ev_swne c22 ?_
      by_cases c29 : ((xs (v4).toNatClampNeg) &&& (15 : Int32)) = (4 : Int32)
      · rw [if_pos c29] at h
        refine am_ev_sweq c29 ?_
        by_cases g30 : ((v4 + (1 : Int32)) < 0 ∨ sl ≤ ((v4 + (1 : Int32))).toNatClampNeg)
        · rw [if_pos g30] at h; cases h
        rw [if_neg g30] at h
        by_cases g31 : ((v4 + (2 : Int32)) < 0 ∨ sl ≤ ((v4 + (2 : Int32))).toNatClampNeg)
        · rw [if_pos g31] at h; cases h
        rw [if_neg g31] at h
        refine am_ev_st 12 (f' := (265, [(0, .retAddr 0), (1, .ref 0), (2, .ref 19), (3, .ref 38), (4, .int v4)], [.ref 38, .int (xs ((v4 + (2 : Int32))).toNatClampNeg), .int (xs ((v4 + (1 : Int32))).toNatClampNeg), .ref 0], (W9 N C E F P Q T G U H B O J V Y Z O9), k, n)) (g := True ∧ True ∧ True ∧ True ∧ True ∧ (0 < sl + 1 ∧ vp_in ((v4 + (1 : Int32))) sl) ∧ True ∧ True ∧ True ∧ True ∧ (0 < sl + 1 ∧ vp_in ((v4 + (2 : Int32))) sl) ∧ True ∧ True) (by with_unfolding_all rfl) ⟨trivial, trivial, trivial, trivial, trivial, ⟨Nat.succ_pos _, g30⟩, trivial, trivial, trivial, trivial, ⟨Nat.succ_pos _, g31⟩, trivial, trivial⟩ ?_
        replace h := Option.bind_eq_some_iff.mp h
        obtain ⟨⟨r32, N_32, E_32, F_32, P_32, O9_32, ⟨k_32, n_32⟩⟩, hc32, h⟩ := h
        try dsimp only at h
        refine am_ev_call (.invokestatic 59) 127 8 618 [.ref 0, .int (xs ((v4 + (1 : Int32))).toNatClampNeg), .int (xs ((v4 + (2 : Int32))).toNatClampNeg), .ref 38] [] rfl rfl rfl rfl (ok_fL_reduce hc32 D (by omega)) rfl ?_
        by_cases g33 : ((v4 + (1 : Int32)) < 0 ∨ sl ≤ ((v4 + (1 : Int32))).toNatClampNeg)
        · rw [if_pos g33] at h; cases h
        rw [if_neg g33] at h
        by_cases g34 : ((v4 + (2 : Int32)) < 0 ∨ sl ≤ ((v4 + (2 : Int32))).toNatClampNeg)
        · rw [if_pos g34] at h; cases h
        rw [if_neg g34] at h
        refine am_ev_st 12 (f' := (283, [(5, .int r32), (0, .retAddr 0), (1, .ref 0), (2, .ref 19), (3, .ref 38), (4, .int v4)], [.int (xs ((v4 + (2 : Int32))).toNatClampNeg), .int (xs ((v4 + (1 : Int32))).toNatClampNeg), .ref 19], (W9 N_32 C E_32 F_32 P_32 Q T G U H B O J V Y Z O9_32), k_32, n_32)) (g := True ∧ True ∧ True ∧ True ∧ True ∧ True ∧ (0 < sl + 1 ∧ vp_in ((v4 + (1 : Int32))) sl) ∧ True ∧ True ∧ True ∧ True ∧ (0 < sl + 1 ∧ vp_in ((v4 + (2 : Int32))) sl) ∧ True) (by with_unfolding_all rfl) ⟨trivial, trivial, trivial, trivial, trivial, trivial, ⟨Nat.succ_pos _, g33⟩, trivial, trivial, trivial, trivial, ⟨Nat.succ_pos _, g34⟩, trivial⟩ ?_
        replace h := Option.bind_eq_some_iff.mp h
        obtain ⟨⟨r35, U_35, H_35, B_35, O_35, J_35, V_35⟩, hc35, h⟩ := h
        try dsimp only at h
        refine am_ev_call (.invokevirtual 61) 114 4 925 [.ref 19, .int (xs ((v4 + (1 : Int32))).toNatClampNeg), .int (xs ((v4 + (2 : Int32))).toNatClampNeg)] [] rfl rfl rfl rfl (ok_fm_reduce hc35 D (by omega)) rfl ?_
        refine am_ev_st 4 (f' := (23, [(4, .int (v4 + (4 : Int32))), (6, .int r35), (5, .int r32), (0, .retAddr 0), (1, .ref 0), (2, .ref 19), (3, .ref 38)], [], (W9 N_32 C E_32 F_32 P_32 Q T G U_35 H_35 B_35 O_35 J_35 V_35 Y Z O9_32), k_32, n_32)) (g := True ∧ True ∧ True ∧ True ∧ True) (by with_unfolding_all rfl) ⟨trivial, trivial, trivial, trivial, trivial⟩ ?_
        refine am_ev_drop [3, 4, 5, 6, 0] rfl rfl ?_
        exact ih h
      rw [if_neg c29] at h
      refine am_ev_swne c29 ?_
      by_cases c36 : ((xs (v4).toNatClampNeg) &&& (15 : Int32)) = (5 : Int32)
      · rw [if_pos c36] at h
        refine am_ev_sweq c36 ?_
        by_cases g37 : ((v4 + (1 : Int32)) < 0 ∨ sl ≤ ((v4 + (1 : Int32))).toNatClampNeg)
        · rw [if_pos g37] at h; cases h
        rw [if_neg g37] at h
        by_cases g38 : ((v4 + (2 : Int32)) < 0 ∨ sl ≤ ((v4 + (2 : Int32))).toNatClampNeg)
        · rw [if_pos g38] at h; cases h
        rw [if_neg g38] at h
        by_cases g39 : ((v4 + (3 : Int32)) < 0 ∨ sl ≤ ((v4 + (3 : Int32))).toNatClampNeg)
        · rw [if_pos g39] at h; cases h
        rw [if_neg g39] at h
        refine am_ev_st 17 (f' := (311, [(0, .retAddr 0), (1, .ref 0), (2, .ref 19), (3, .ref 38), (4, .int v4)], [.ref 38, .int (xs ((v4 + (3 : Int32))).toNatClampNeg), .int (xs ((v4 + (2 : Int32))).toNatClampNeg), .int (xs ((v4 + (1 : Int32))).toNatClampNeg), .ref 0], (W9 N C E F P Q T G U H B O J V Y Z O9), k, n)) (g := True ∧ True ∧ True ∧ True ∧ True ∧ (0 < sl + 1 ∧ vp_in ((v4 + (1 : Int32))) sl) ∧ True ∧ True ∧ True ∧ True ∧ (0 < sl + 1 ∧ vp_in ((v4 + (2 : Int32))) sl) ∧ True ∧ True ∧ True ∧ True ∧ (0 < sl + 1 ∧ vp_in ((v4 + (3 : Int32))) sl) ∧ True ∧ True) (by with_unfolding_all rfl) ⟨trivial, trivial, trivial, trivial, trivial, ⟨Nat.succ_pos _, g37⟩, trivial, trivial, trivial, trivial, ⟨Nat.succ_pos _, g38⟩, trivial, trivial, trivial, trivial, ⟨Nat.succ_pos _, g39⟩, trivial, trivial⟩ ?_
        replace h := Option.bind_eq_some_iff.mp h
        obtain ⟨⟨r40, N_40, E_40, F_40, O9_40, ⟨k_40, n_40⟩⟩, hc40, h⟩ := h
        try dsimp only at h
        refine am_ev_call (.invokestatic 62) 128 10 626 [.ref 0, .int (xs ((v4 + (1 : Int32))).toNatClampNeg), .int (xs ((v4 + (2 : Int32))).toNatClampNeg), .int (xs ((v4 + (3 : Int32))).toNatClampNeg), .ref 38] [] rfl rfl rfl rfl (ok_fL_same hc40 D (by omega)) rfl ?_
        by_cases g41 : ((v4 + (1 : Int32)) < 0 ∨ sl ≤ ((v4 + (1 : Int32))).toNatClampNeg)
        · rw [if_pos g41] at h; cases h
        rw [if_neg g41] at h
        by_cases g42 : ((v4 + (2 : Int32)) < 0 ∨ sl ≤ ((v4 + (2 : Int32))).toNatClampNeg)
        · rw [if_pos g42] at h; cases h
        rw [if_neg g42] at h
        by_cases g43 : ((v4 + (3 : Int32)) < 0 ∨ sl ≤ ((v4 + (3 : Int32))).toNatClampNeg)
        · rw [if_pos g43] at h; cases h
        rw [if_neg g43] at h
        refine am_ev_st 17 (f' := (335, [(5, .int r40), (0, .retAddr 0), (1, .ref 0), (2, .ref 19), (3, .ref 38), (4, .int v4)], [.int (xs ((v4 + (3 : Int32))).toNatClampNeg), .int (xs ((v4 + (2 : Int32))).toNatClampNeg), .int (xs ((v4 + (1 : Int32))).toNatClampNeg), .ref 19], (W9 N_40 C E_40 F_40 P Q T G U H B O J V Y Z O9_40), k_40, n_40)) (g := True ∧ True ∧ True ∧ True ∧ True ∧ True ∧ (0 < sl + 1 ∧ vp_in ((v4 + (1 : Int32))) sl) ∧ True ∧ True ∧ True ∧ True ∧ (0 < sl + 1 ∧ vp_in ((v4 + (2 : Int32))) sl) ∧ True ∧ True ∧ True ∧ True ∧ (0 < sl + 1 ∧ vp_in ((v4 + (3 : Int32))) sl) ∧ True) (by with_unfolding_all rfl) ⟨trivial, trivial, trivial, trivial, trivial, trivial, ⟨Nat.succ_pos _, g41⟩, trivial, trivial, trivial, trivial, ⟨Nat.succ_pos _, g42⟩, trivial, trivial, trivial, trivial, ⟨Nat.succ_pos _, g43⟩, trivial⟩ ?_
        replace h := Option.bind_eq_some_iff.mp h
        obtain ⟨⟨r44, U_44, B_44, O_44, J_44, V_44, Z_44⟩, hc44, h⟩ := h
        try dsimp only at h
        refine am_ev_call (.invokevirtual 65) 115 6 929 [.ref 19, .int (xs ((v4 + (1 : Int32))).toNatClampNeg), .int (xs ((v4 + (2 : Int32))).toNatClampNeg), .int (xs ((v4 + (3 : Int32))).toNatClampNeg)] [] rfl rfl rfl rfl (ok_fm_same hc44 D (by omega)) rfl ?_
        refine am_ev_st 4 (f' := (23, [(4, .int (v4 + (4 : Int32))), (6, .int (am_bz r44)), (5, .int r40), (0, .retAddr 0), (1, .ref 0), (2, .ref 19), (3, .ref 38)], [], (W9 N_40 C E_40 F_40 P Q T G U_44 H B_44 O_44 J_44 V_44 Y Z_44 O9_40), k_40, n_40)) (g := True ∧ True ∧ True ∧ True ∧ True) (by with_unfolding_all rfl) ⟨trivial, trivial, trivial, trivial, trivial⟩ ?_
        refine am_ev_drop [3, 4, 5, 6, 0] rfl rfl ?_
        exact ih h
      rw [if_neg c36] at h
      refine am_ev_swne c36 ?_
      by_cases c45 : ((xs (v4).toNatClampNeg) &&& (15 : Int32)) = (6 : Int32)
      · rw [if_pos c45] at h
        refine am_ev_sweq c45 ?_
        by_cases g46 : ((v4 + (1 : Int32)) < 0 ∨ sl ≤ ((v4 + (1 : Int32))).toNatClampNeg)
        · rw [if_pos g46] at h; cases h
        rw [if_neg g46] at h
        by_cases g47 : ((v4 + (2 : Int32)) < 0 ∨ sl ≤ ((v4 + (2 : Int32))).toNatClampNeg)
        · rw [if_pos g47] at h; cases h
        rw [if_neg g47] at h
        by_cases g48 : ((v4 + (3 : Int32)) < 0 ∨ sl ≤ ((v4 + (3 : Int32))).toNatClampNeg)
        · rw [if_pos g48] at h; cases h
        rw [if_neg g48] at h
        refine am_ev_st 17 (f' := (363, [(0, .retAddr 0), (1, .ref 0), (2, .ref 19), (3, .ref 38), (4, .int v4)], [.ref 38, .int (xs ((v4 + (3 : Int32))).toNatClampNeg), .int (xs ((v4 + (2 : Int32))).toNatClampNeg), .int (xs ((v4 + (1 : Int32))).toNatClampNeg), .ref 0], (W9 N C E F P Q T G U H B O J V Y Z O9), k, n)) (g := True ∧ True ∧ True ∧ True ∧ True ∧ (0 < sl + 1 ∧ vp_in ((v4 + (1 : Int32))) sl) ∧ True ∧ True ∧ True ∧ True ∧ (0 < sl + 1 ∧ vp_in ((v4 + (2 : Int32))) sl) ∧ True ∧ True ∧ True ∧ True ∧ (0 < sl + 1 ∧ vp_in ((v4 + (3 : Int32))) sl) ∧ True ∧ True) (by with_unfolding_all rfl) ⟨trivial, trivial, trivial, trivial, trivial, ⟨Nat.succ_pos _, g46⟩, trivial, trivial, trivial, trivial, ⟨Nat.succ_pos _, g47⟩, trivial, trivial, trivial, trivial, ⟨Nat.succ_pos _, g48⟩, trivial, trivial⟩ ?_
        replace h := Option.bind_eq_some_iff.mp h
        obtain ⟨⟨r49, N_49, E_49, F_49, O9_49, ⟨k_49, n_49⟩⟩, hc49, h⟩ := h
        try dsimp only at h
        refine am_ev_call (.invokestatic 66) 129 10 634 [.ref 0, .int (xs ((v4 + (1 : Int32))).toNatClampNeg), .int (xs ((v4 + (2 : Int32))).toNatClampNeg), .int (xs ((v4 + (3 : Int32))).toNatClampNeg), .ref 38] [] rfl rfl rfl rfl (ok_fL_check hc49 D (by omega)) rfl ?_
        by_cases g50 : ((v4 + (1 : Int32)) < 0 ∨ sl ≤ ((v4 + (1 : Int32))).toNatClampNeg)
        · rw [if_pos g50] at h; cases h
        rw [if_neg g50] at h
        by_cases g51 : ((v4 + (2 : Int32)) < 0 ∨ sl ≤ ((v4 + (2 : Int32))).toNatClampNeg)
        · rw [if_pos g51] at h; cases h
        rw [if_neg g51] at h
        by_cases g52 : ((v4 + (3 : Int32)) < 0 ∨ sl ≤ ((v4 + (3 : Int32))).toNatClampNeg)
        · rw [if_pos g52] at h; cases h
        rw [if_neg g52] at h
        refine am_ev_st 17 (f' := (387, [(5, .int r49), (0, .retAddr 0), (1, .ref 0), (2, .ref 19), (3, .ref 38), (4, .int v4)], [.int (xs ((v4 + (3 : Int32))).toNatClampNeg), .int (xs ((v4 + (2 : Int32))).toNatClampNeg), .int (xs ((v4 + (1 : Int32))).toNatClampNeg), .ref 19], (W9 N_49 C E_49 F_49 P Q T G U H B O J V Y Z O9_49), k_49, n_49)) (g := True ∧ True ∧ True ∧ True ∧ True ∧ True ∧ (0 < sl + 1 ∧ vp_in ((v4 + (1 : Int32))) sl) ∧ True ∧ True ∧ True ∧ True ∧ (0 < sl + 1 ∧ vp_in ((v4 + (2 : Int32))) sl) ∧ True ∧ True ∧ True ∧ True ∧ (0 < sl + 1 ∧ vp_in ((v4 + (3 : Int32))) sl) ∧ True) (by with_unfolding_all rfl) ⟨trivial, trivial, trivial, trivial, trivial, trivial, ⟨Nat.succ_pos _, g50⟩, trivial, trivial, trivial, trivial, ⟨Nat.succ_pos _, g51⟩, trivial, trivial, trivial, trivial, ⟨Nat.succ_pos _, g52⟩, trivial⟩ ?_
        replace h := Option.bind_eq_some_iff.mp h
        obtain ⟨⟨r53, U_53, B_53, O_53, J_53, V_53, Y_53, Z_53⟩, hc53, h⟩ := h
        try dsimp only at h
        refine am_ev_call (.invokevirtual 68) 116 6 933 [.ref 19, .int (xs ((v4 + (1 : Int32))).toNatClampNeg), .int (xs ((v4 + (2 : Int32))).toNatClampNeg), .int (xs ((v4 + (3 : Int32))).toNatClampNeg)] [] rfl rfl rfl rfl (ok_fm_check hc53 D (by omega)) rfl ?_
        refine am_ev_st 2 (f' := (393, [(6, .int (am_bz r53)), (5, .int r49), (0, .retAddr 0), (1, .ref 0), (2, .ref 19), (3, .ref 38), (4, .int v4)], [.ref 19], (W9 N_49 C E_49 F_49 P Q T G U_53 H B_53 O_53 J_53 V_53 Y_53 Z_53 O9_49), k_49, n_49)) (g := True ∧ True ∧ True) (by with_unfolding_all rfl) ⟨trivial, trivial, trivial⟩ ?_
        replace h := Option.bind_eq_some_iff.mp h
        obtain ⟨r54, hc54, h⟩ := h
        try dsimp only at h
        refine am_ev_call (.invokevirtual 69) 77 0 780 [.ref 19] [] rfl rfl rfl rfl (ok_fm_thrown hc54 D (by omega)) rfl ?_
        refine am_ev_st 2 (f' := am_br (r54 = r49) 403 398 [(6, .int (am_bz r53)), (5, .int r49), (0, .retAddr 0), (1, .ref 0), (2, .ref 19), (3, .ref 38), (4, .int v4)] [] (W9 N_49 C E_49 F_49 P Q T G U_53 H B_53 O_53 J_53 V_53 Y_53 Z_53 O9_49) k_49 n_49) (g := True ∧ True ∧ True) (by with_unfolding_all rfl) ⟨trivial, trivial, trivial⟩ ?_
        by_cases c55 : r54 = r49
        · rw [if_pos c55] at h
          refine am_ev_pos c55 ?_
          refine am_ev_st 2 (f' := am_br (r49 ≠ 0) 427 405 [(6, .int (am_bz r53)), (5, .int r49), (0, .retAddr 0), (1, .ref 0), (2, .ref 19), (3, .ref 38), (4, .int v4)] [] (W9 N_49 C E_49 F_49 P Q T G U_53 H B_53 O_53 J_53 V_53 Y_53 Z_53 O9_49) k_49 n_49) (g := True ∧ True ∧ True) (by with_unfolding_all rfl) ⟨trivial, trivial, trivial⟩ ?_
          by_cases c56 : r49 ≠ 0
          · rw [if_pos c56] at h
            refine am_ev_pos c56 ?_
            refine am_ev_st 3 (f' := (23, [(4, .int (v4 + (4 : Int32))), (6, .int (am_bz r53)), (5, .int r49), (0, .retAddr 0), (1, .ref 0), (2, .ref 19), (3, .ref 38)], [], (W9 N_49 C E_49 F_49 P Q T G U_53 H B_53 O_53 J_53 V_53 Y_53 Z_53 O9_49), k_49, n_49)) (g := True ∧ True ∧ True ∧ True) (by with_unfolding_all rfl) ⟨trivial, trivial, trivial, trivial⟩ ?_
            refine am_ev_drop [3, 4, 5, 6, 0] rfl rfl ?_
            exact ih h
          · rw [if_neg c56] at h
            refine am_ev_neg c56 ?_
            by_cases g57 : ((0 : Int32) < 0 ∨ 1 ≤ ((0 : Int32)).toNatClampNeg)
            · rw [if_pos g57] at h; cases h
            rw [if_neg g57] at h
            refine am_ev_st 5 (f' := am_br ((am_bz r53) = 0) 420 413 [(6, .int (am_bz r53)), (5, .int r49), (0, .retAddr 0), (1, .ref 0), (2, .ref 19), (3, .ref 38), (4, .int v4)] [.long (O9_49 ((0 : Int32)).toNatClampNeg)] (W9 N_49 C E_49 F_49 P Q T G U_53 H B_53 O_53 J_53 V_53 Y_53 Z_53 O9_49) k_49 n_49) (g := True ∧ True ∧ vp_in ((0 : Int32)) 1 ∧ True ∧ True ∧ True) (by with_unfolding_all rfl) ⟨trivial, trivial, g57, trivial, trivial, trivial⟩ ?_
            by_cases c58 : (am_bz r53) = 0
            · rw [if_pos c58] at h
              refine am_ev_pos c58 ?_
              refine am_ev_st 3 (f' := am_br ((lg_cmp (O9_49 ((0 : Int32)).toNatClampNeg) 0) = 0) 427 422 [(6, .int (am_bz r53)), (5, .int r49), (0, .retAddr 0), (1, .ref 0), (2, .ref 19), (3, .ref 38), (4, .int v4)] [] (W9 N_49 C E_49 F_49 P Q T G U_53 H B_53 O_53 J_53 V_53 Y_53 Z_53 O9_49) k_49 n_49) (g := True ∧ True ∧ True ∧ True) (by with_unfolding_all rfl) ⟨trivial, trivial, trivial, trivial⟩ ?_
              by_cases c59 : (lg_cmp (O9_49 ((0 : Int32)).toNatClampNeg) 0) = 0
              · rw [if_pos c59] at h
                refine am_ev_pos c59 ?_
                refine am_ev_st 3 (f' := (23, [(4, .int (v4 + (4 : Int32))), (6, .int (am_bz r53)), (5, .int r49), (0, .retAddr 0), (1, .ref 0), (2, .ref 19), (3, .ref 38)], [], (W9 N_49 C E_49 F_49 P Q T G U_53 H B_53 O_53 J_53 V_53 Y_53 Z_53 O9_49), k_49, n_49)) (g := True ∧ True ∧ True ∧ True) (by with_unfolding_all rfl) ⟨trivial, trivial, trivial, trivial⟩ ?_
                refine am_ev_drop [3, 4, 5, 6, 0] rfl rfl ?_
                exact ih h
              · rw [if_neg c59] at h
                refine am_ev_neg c59 ?_
                refine am_ev_st 1 (f' := (426, [(6, .int (am_bz r53)), (5, .int r49), (0, .retAddr 0), (1, .ref 0), (2, .ref 19), (3, .ref 38), (4, .int v4)], [.int (0 : Int32)], (W9 N_49 C E_49 F_49 P Q T G U_53 H B_53 O_53 J_53 V_53 Y_53 Z_53 O9_49), k_49, n_49)) (g := True ∧ True) (by with_unfolding_all rfl) ⟨trivial, trivial⟩ ?_
                cases h
                exact am_ev_ret 0 0 0 rfl .boolean rfl am_n0 rfl
            · rw [if_neg c58] at h
              refine am_ev_neg c58 ?_
              refine am_ev_st 4 (f' := am_br ((lg_cmp (O9_49 ((0 : Int32)).toNatClampNeg) 1) = 0) 427 422 [(6, .int (am_bz r53)), (5, .int r49), (0, .retAddr 0), (1, .ref 0), (2, .ref 19), (3, .ref 38), (4, .int v4)] [] (W9 N_49 C E_49 F_49 P Q T G U_53 H B_53 O_53 J_53 V_53 Y_53 Z_53 O9_49) k_49 n_49) (g := True ∧ True ∧ True ∧ True ∧ True) (by with_unfolding_all rfl) ⟨trivial, trivial, trivial, trivial, trivial⟩ ?_
              by_cases c60 : (lg_cmp (O9_49 ((0 : Int32)).toNatClampNeg) 1) = 0
              · rw [if_pos c60] at h
                refine am_ev_pos c60 ?_
                refine am_ev_st 3 (f' := (23, [(4, .int (v4 + (4 : Int32))), (6, .int (am_bz r53)), (5, .int r49), (0, .retAddr 0), (1, .ref 0), (2, .ref 19), (3, .ref 38)], [], (W9 N_49 C E_49 F_49 P Q T G U_53 H B_53 O_53 J_53 V_53 Y_53 Z_53 O9_49), k_49, n_49)) (g := True ∧ True ∧ True ∧ True) (by with_unfolding_all rfl) ⟨trivial, trivial, trivial, trivial⟩ ?_
                refine am_ev_drop [3, 4, 5, 6, 0] rfl rfl ?_
                exact ih h
              · rw [if_neg c60] at h
                refine am_ev_neg c60 ?_
                refine am_ev_st 1 (f' := (426, [(6, .int (am_bz r53)), (5, .int r49), (0, .retAddr 0), (1, .ref 0), (2, .ref 19), (3, .ref 38), (4, .int v4)], [.int (0 : Int32)], (W9 N_49 C E_49 F_49 P Q T G U_53 H B_53 O_53 J_53 V_53 Y_53 Z_53 O9_49), k_49, n_49)) (g := True ∧ True) (by with_unfolding_all rfl) ⟨trivial, trivial⟩ ?_
                cases h
                exact am_ev_ret 0 0 0 rfl .boolean rfl am_n0 rfl
        · rw [if_neg c55] at h
          refine am_ev_neg c55 ?_
          refine am_ev_st 1 (f' := (402, [(6, .int (am_bz r53)), (5, .int r49), (0, .retAddr 0), (1, .ref 0), (2, .ref 19), (3, .ref 38), (4, .int v4)], [.int (0 : Int32)], (W9 N_49 C E_49 F_49 P Q T G U_53 H B_53 O_53 J_53 V_53 Y_53 Z_53 O9_49), k_49, n_49)) (g := True ∧ True) (by with_unfolding_all rfl) ⟨trivial, trivial⟩ ?_
          cases h
          exact am_ev_ret 0 0 0 rfl .boolean rfl am_n0 rfl
      rw [if_neg c45] at h
      refine am_ev_swne c45 ?_
      by_cases c61 : ((xs (v4).toNatClampNeg) &&& (15 : Int32)) = (7 : Int32)
      · rw [if_pos c61] at h
        refine am_ev_sweq c61 ?_
        by_cases g62 : ((v4 + (1 : Int32)) < 0 ∨ sl ≤ ((v4 + (1 : Int32))).toNatClampNeg)
        · rw [if_pos g62] at h; cases h
        rw [if_neg g62] at h
        by_cases g63 : ((v4 + (2 : Int32)) < 0 ∨ sl ≤ ((v4 + (2 : Int32))).toNatClampNeg)
        · rw [if_pos g63] at h; cases h
        rw [if_neg g63] at h
        refine am_ev_st 12 (f' := (444, [(0, .retAddr 0), (1, .ref 0), (2, .ref 19), (3, .ref 38), (4, .int v4)], [.ref 38, .int (xs ((v4 + (2 : Int32))).toNatClampNeg), .int (xs ((v4 + (1 : Int32))).toNatClampNeg), .ref 0], (W9 N C E F P Q T G U H B O J V Y Z O9), k, n)) (g := True ∧ True ∧ True ∧ True ∧ True ∧ (0 < sl + 1 ∧ vp_in ((v4 + (1 : Int32))) sl) ∧ True ∧ True ∧ True ∧ True ∧ (0 < sl + 1 ∧ vp_in ((v4 + (2 : Int32))) sl) ∧ True ∧ True) (by with_unfolding_all rfl) ⟨trivial, trivial, trivial, trivial, trivial, ⟨Nat.succ_pos _, g62⟩, trivial, trivial, trivial, trivial, ⟨Nat.succ_pos _, g63⟩, trivial, trivial⟩ ?_
        replace h := Option.bind_eq_some_iff.mp h
        obtain ⟨⟨r64, N_64, C_64, E_64, F_64, O9_64, ⟨k_64, n_64⟩⟩, hc64, h⟩ := h
        try dsimp only at h
        refine am_ev_call (.invokestatic 72) 130 8 642 [.ref 0, .int (xs ((v4 + (1 : Int32))).toNatClampNeg), .int (xs ((v4 + (2 : Int32))).toNatClampNeg), .ref 38] [] rfl rfl rfl rfl (ok_fL_declare hc64 D (by omega)) rfl ?_
        by_cases g65 : ((v4 + (1 : Int32)) < 0 ∨ sl ≤ ((v4 + (1 : Int32))).toNatClampNeg)
        · rw [if_pos g65] at h; cases h
        rw [if_neg g65] at h
        by_cases g66 : ((v4 + (2 : Int32)) < 0 ∨ sl ≤ ((v4 + (2 : Int32))).toNatClampNeg)
        · rw [if_pos g66] at h; cases h
        rw [if_neg g66] at h
        refine am_ev_st 12 (f' := (462, [(5, .int r64), (0, .retAddr 0), (1, .ref 0), (2, .ref 19), (3, .ref 38), (4, .int v4)], [.int (xs ((v4 + (2 : Int32))).toNatClampNeg), .int (xs ((v4 + (1 : Int32))).toNatClampNeg), .ref 19], (W9 N_64 C_64 E_64 F_64 P Q T G U H B O J V Y Z O9_64), k_64, n_64)) (g := True ∧ True ∧ True ∧ True ∧ True ∧ True ∧ (0 < sl + 1 ∧ vp_in ((v4 + (1 : Int32))) sl) ∧ True ∧ True ∧ True ∧ True ∧ (0 < sl + 1 ∧ vp_in ((v4 + (2 : Int32))) sl) ∧ True) (by with_unfolding_all rfl) ⟨trivial, trivial, trivial, trivial, trivial, trivial, ⟨Nat.succ_pos _, g65⟩, trivial, trivial, trivial, trivial, ⟨Nat.succ_pos _, g66⟩, trivial⟩ ?_
        replace h := Option.bind_eq_some_iff.mp h
        obtain ⟨⟨r67, G_67, U_67, B_67, O_67, J_67, V_67, Y_67, Z_67⟩, hc67, h⟩ := h
        try dsimp only at h
        refine am_ev_call (.invokevirtual 74) 117 4 937 [.ref 19, .int (xs ((v4 + (1 : Int32))).toNatClampNeg), .int (xs ((v4 + (2 : Int32))).toNatClampNeg)] [] rfl rfl rfl rfl (ok_fm_declare hc67 D (by omega)) rfl ?_
        refine am_ev_st 4 (f' := (23, [(4, .int (v4 + (4 : Int32))), (6, .int r67), (5, .int r64), (0, .retAddr 0), (1, .ref 0), (2, .ref 19), (3, .ref 38)], [], (W9 N_64 C_64 E_64 F_64 P Q T G_67 U_67 H B_67 O_67 J_67 V_67 Y_67 Z_67 O9_64), k_64, n_64)) (g := True ∧ True ∧ True ∧ True ∧ True) (by with_unfolding_all rfl) ⟨trivial, trivial, trivial, trivial, trivial⟩ ?_
        refine am_ev_drop [3, 4, 5, 6, 0] rfl rfl ?_
        exact ih h
      rw [if_neg c61] at h
      refine am_ev_swne c61 ?_
      by_cases c68 : ((xs (v4).toNatClampNeg) &&& (15 : Int32)) = (8 : Int32)
      · rw [if_pos c68] at h
        refine am_ev_sweq c68 ?_
        by_cases g69 : ((v4 + (1 : Int32)) < 0 ∨ sl ≤ ((v4 + (1 : Int32))).toNatClampNeg)
        · rw [if_pos g69] at h; cases h
        rw [if_neg g69] at h
        by_cases g70 : ((v4 + (2 : Int32)) < 0 ∨ sl ≤ ((v4 + (2 : Int32))).toNatClampNeg)
        · rw [if_pos g70] at h; cases h
        rw [if_neg g70] at h
        refine am_ev_st 12 (f' := (484, [(0, .retAddr 0), (1, .ref 0), (2, .ref 19), (3, .ref 38), (4, .int v4)], [.ref 38, .int (xs ((v4 + (2 : Int32))).toNatClampNeg), .int (xs ((v4 + (1 : Int32))).toNatClampNeg), .ref 0], (W9 N C E F P Q T G U H B O J V Y Z O9), k, n)) (g := True ∧ True ∧ True ∧ True ∧ True ∧ (0 < sl + 1 ∧ vp_in ((v4 + (1 : Int32))) sl) ∧ True ∧ True ∧ True ∧ True ∧ (0 < sl + 1 ∧ vp_in ((v4 + (2 : Int32))) sl) ∧ True ∧ True) (by with_unfolding_all rfl) ⟨trivial, trivial, trivial, trivial, trivial, ⟨Nat.succ_pos _, g69⟩, trivial, trivial, trivial, trivial, ⟨Nat.succ_pos _, g70⟩, trivial, trivial⟩ ?_
        replace h := Option.bind_eq_some_iff.mp h
        obtain ⟨⟨r71, N_71, C_71, E_71, F_71, Q_71, O9_71, ⟨k_71, n_71⟩⟩, hc71, h⟩ := h
        try dsimp only at h
        refine am_ev_call (.invokestatic 75) 131 8 661 [.ref 0, .int (xs ((v4 + (1 : Int32))).toNatClampNeg), .int (xs ((v4 + (2 : Int32))).toNatClampNeg), .ref 38] [] rfl rfl rfl rfl (ok_fL_define hc71 D (by omega)) rfl ?_
        by_cases g72 : ((v4 + (1 : Int32)) < 0 ∨ sl ≤ ((v4 + (1 : Int32))).toNatClampNeg)
        · rw [if_pos g72] at h; cases h
        rw [if_neg g72] at h
        by_cases g73 : ((v4 + (2 : Int32)) < 0 ∨ sl ≤ ((v4 + (2 : Int32))).toNatClampNeg)
        · rw [if_pos g73] at h; cases h
        rw [if_neg g73] at h
        refine am_ev_st 12 (f' := (502, [(5, .int r71), (0, .retAddr 0), (1, .ref 0), (2, .ref 19), (3, .ref 38), (4, .int v4)], [.int (xs ((v4 + (2 : Int32))).toNatClampNeg), .int (xs ((v4 + (1 : Int32))).toNatClampNeg), .ref 19], (W9 N_71 C_71 E_71 F_71 P Q_71 T G U H B O J V Y Z O9_71), k_71, n_71)) (g := True ∧ True ∧ True ∧ True ∧ True ∧ True ∧ (0 < sl + 1 ∧ vp_in ((v4 + (1 : Int32))) sl) ∧ True ∧ True ∧ True ∧ True ∧ (0 < sl + 1 ∧ vp_in ((v4 + (2 : Int32))) sl) ∧ True) (by with_unfolding_all rfl) ⟨trivial, trivial, trivial, trivial, trivial, trivial, ⟨Nat.succ_pos _, g72⟩, trivial, trivial, trivial, trivial, ⟨Nat.succ_pos _, g73⟩, trivial⟩ ?_
        replace h := Option.bind_eq_some_iff.mp h
        obtain ⟨⟨r74, G_74, U_74, B_74, O_74, J_74, V_74, Y_74, Z_74⟩, hc74, h⟩ := h
        try dsimp only at h
        refine am_ev_call (.invokevirtual 77) 118 4 941 [.ref 19, .int (xs ((v4 + (1 : Int32))).toNatClampNeg), .int (xs ((v4 + (2 : Int32))).toNatClampNeg)] [] rfl rfl rfl rfl (ok_fm_define hc74 D (by omega)) rfl ?_
        refine am_ev_st 4 (f' := (23, [(4, .int (v4 + (4 : Int32))), (6, .int r74), (5, .int r71), (0, .retAddr 0), (1, .ref 0), (2, .ref 19), (3, .ref 38)], [], (W9 N_71 C_71 E_71 F_71 P Q_71 T G_74 U_74 H B_74 O_74 J_74 V_74 Y_74 Z_74 O9_71), k_71, n_71)) (g := True ∧ True ∧ True ∧ True ∧ True) (by with_unfolding_all rfl) ⟨trivial, trivial, trivial, trivial, trivial⟩ ?_
        refine am_ev_drop [3, 4, 5, 6, 0] rfl rfl ?_
        exact ih h
      rw [if_neg c68] at h
      refine am_ev_swne c68 ?_
      by_cases c75 : ((xs (v4).toNatClampNeg) &&& (15 : Int32)) = (9 : Int32)
      · rw [if_pos c75] at h
        refine am_ev_sweq c75 ?_
        refine am_ev_st 1 (f' := (511, [(0, .retAddr 0), (1, .ref 0), (2, .ref 19), (3, .ref 38), (4, .int v4)], [.ref 0], (W9 N C E F P Q T G U H B O J V Y Z O9), k, n)) (g := True ∧ True) (by with_unfolding_all rfl) ⟨trivial, trivial⟩ ?_
        replace h := Option.bind_eq_some_iff.mp h
        obtain ⟨r76, hc76, h⟩ := h
        try dsimp only at h
        refine am_ev_call (.invokevirtual 78) 65 0 276 [.ref 0] [] rfl rfl rfl rfl (ok_fJ_constants hc76 D (by omega)) rfl ?_
        refine am_ev_st 2 (f' := (516, [(0, .retAddr 0), (1, .ref 0), (2, .ref 19), (3, .ref 38), (4, .int v4)], [.ref 19], (W9 N C E F P Q T G U H B O J V Y Z O9), k, n)) (g := True ∧ True ∧ True) (by with_unfolding_all rfl) ⟨trivial, trivial, trivial⟩ ?_
        replace h := Option.bind_eq_some_iff.mp h
        obtain ⟨⟨r77, U_77⟩, hc77, h⟩ := h
        try dsimp only at h
        refine am_ev_call (.invokevirtual 81) 119 0 945 [.ref 19] [] rfl rfl rfl rfl (ok_fm_constants hc77 D (by omega)) rfl ?_
        refine am_ev_st 4 (f' := (23, [(4, .int (v4 + (4 : Int32))), (0, .retAddr 0), (1, .ref 0), (2, .ref 19), (3, .ref 38)], [], (W9 N C E F P Q T G U_77 H B O J V Y Z O9), k, n)) (g := True ∧ True ∧ True ∧ True ∧ True) (by with_unfolding_all rfl) ⟨trivial, trivial, trivial, trivial, trivial⟩ ?_
        refine am_ev_drop [1, 2, 3, 4, 0] rfl rfl ?_
        exact ih h
      rw [if_neg c75] at h
      refine am_ev_swne c75 ?_
      by_cases c78 : ((xs (v4).toNatClampNeg) &&& (15 : Int32)) = (10 : Int32)
      · rw [if_pos c78] at h
        refine am_ev_sweq c78 ?_
        by_cases g79 : ((v4 + (1 : Int32)) < 0 ∨ sl ≤ ((v4 + (1 : Int32))).toNatClampNeg)
        · rw [if_pos g79] at h; cases h
        rw [if_neg g79] at h
        refine am_ev_st 6 (f' := (530, [(0, .retAddr 0), (1, .ref 0), (2, .ref 19), (3, .ref 38), (4, .int v4)], [.int (xs ((v4 + (1 : Int32))).toNatClampNeg), .ref 0], (W9 N C E F P Q T G U H B O J V Y Z O9), k, n)) (g := True ∧ True ∧ True ∧ True ∧ True ∧ (0 < sl + 1 ∧ vp_in ((v4 + (1 : Int32))) sl) ∧ True) (by with_unfolding_all rfl) ⟨trivial, trivial, trivial, trivial, trivial, ⟨Nat.succ_pos _, g79⟩, trivial⟩ ?_
        replace h := Option.bind_eq_some_iff.mp h
        obtain ⟨r80, hc80, h⟩ := h
        try dsimp only at h
        refine am_ev_call (.invokevirtual 82) 66 2 284 [.ref 0, .int (xs ((v4 + (1 : Int32))).toNatClampNeg)] [] rfl rfl rfl rfl (ok_fJ_hasBody hc80 D (by omega)) rfl ?_
        by_cases g81 : ((v4 + (1 : Int32)) < 0 ∨ sl ≤ ((v4 + (1 : Int32))).toNatClampNeg)
        · rw [if_pos g81] at h; cases h
        rw [if_neg g81] at h
        refine am_ev_st 7 (f' := (541, [(0, .retAddr 0), (1, .ref 0), (2, .ref 19), (3, .ref 38), (4, .int v4)], [.int (xs ((v4 + (1 : Int32))).toNatClampNeg), .ref 19], (W9 N C E F P Q T G U H B O J V Y Z O9), k, n)) (g := True ∧ True ∧ True ∧ True ∧ True ∧ True ∧ (0 < sl + 1 ∧ vp_in ((v4 + (1 : Int32))) sl) ∧ True) (by with_unfolding_all rfl) ⟨trivial, trivial, trivial, trivial, trivial, trivial, ⟨Nat.succ_pos _, g81⟩, trivial⟩ ?_
        replace h := Option.bind_eq_some_iff.mp h
        obtain ⟨⟨r82, U_82⟩, hc82, h⟩ := h
        try dsimp only at h
        refine am_ev_call (.invokevirtual 86) 120 2 949 [.ref 19, .int (xs ((v4 + (1 : Int32))).toNatClampNeg)] [] rfl rfl rfl rfl (ok_fm_hasBody hc82 D (by omega)) rfl ?_
        refine am_ev_st 4 (f' := (23, [(4, .int (v4 + (4 : Int32))), (0, .retAddr 0), (1, .ref 0), (2, .ref 19), (3, .ref 38)], [], (W9 N C E F P Q T G U_82 H B O J V Y Z O9), k, n)) (g := True ∧ True ∧ True ∧ True ∧ True) (by with_unfolding_all rfl) ⟨trivial, trivial, trivial, trivial, trivial⟩ ?_
        refine am_ev_drop [1, 2, 3, 4, 0] rfl rfl ?_
        exact ih h
      rw [if_neg c78] at h
      refine am_ev_swne c78 ?_
      by_cases c83 : ((xs (v4).toNatClampNeg) &&& (15 : Int32)) = (11 : Int32)
      · rw [if_pos c83] at h
        refine am_ev_sweq c83 ?_
        by_cases g84 : ((v4 + (1 : Int32)) < 0 ∨ sl ≤ ((v4 + (1 : Int32))).toNatClampNeg)
        · rw [if_pos g84] at h; cases h
        rw [if_neg g84] at h
        refine am_ev_st 6 (f' := (555, [(0, .retAddr 0), (1, .ref 0), (2, .ref 19), (3, .ref 38), (4, .int v4)], [.int (xs ((v4 + (1 : Int32))).toNatClampNeg), .ref 0], (W9 N C E F P Q T G U H B O J V Y Z O9), k, n)) (g := True ∧ True ∧ True ∧ True ∧ True ∧ (0 < sl + 1 ∧ vp_in ((v4 + (1 : Int32))) sl) ∧ True) (by with_unfolding_all rfl) ⟨trivial, trivial, trivial, trivial, trivial, ⟨Nat.succ_pos _, g84⟩, trivial⟩ ?_
        replace h := Option.bind_eq_some_iff.mp h
        obtain ⟨⟨r85, P_85⟩, hc85, h⟩ := h
        try dsimp only at h
        refine am_ev_call (.invokevirtual 87) 67 2 293 [.ref 0, .int (xs ((v4 + (1 : Int32))).toNatClampNeg)] [] rfl rfl rfl rfl (ok_fJ_typeOf hc85 D (by omega)) rfl ?_
        by_cases g86 : ((v4 + (1 : Int32)) < 0 ∨ sl ≤ ((v4 + (1 : Int32))).toNatClampNeg)
        · rw [if_pos g86] at h; cases h
        rw [if_neg g86] at h
        refine am_ev_st 7 (f' := (566, [(0, .retAddr 0), (1, .ref 0), (2, .ref 19), (3, .ref 38), (4, .int v4)], [.int (xs ((v4 + (1 : Int32))).toNatClampNeg), .ref 19], (W9 N C E F P_85 Q T G U H B O J V Y Z O9), k, n)) (g := True ∧ True ∧ True ∧ True ∧ True ∧ True ∧ (0 < sl + 1 ∧ vp_in ((v4 + (1 : Int32))) sl) ∧ True) (by with_unfolding_all rfl) ⟨trivial, trivial, trivial, trivial, trivial, trivial, ⟨Nat.succ_pos _, g86⟩, trivial⟩ ?_
        replace h := Option.bind_eq_some_iff.mp h
        obtain ⟨⟨r87, U_87, H_87, B_87⟩, hc87, h⟩ := h
        try dsimp only at h
        refine am_ev_call (.invokevirtual 91) 121 2 953 [.ref 19, .int (xs ((v4 + (1 : Int32))).toNatClampNeg)] [] rfl rfl rfl rfl (ok_fm_typeOf hc87 D (by omega)) rfl ?_
        refine am_ev_st 4 (f' := (23, [(4, .int (v4 + (4 : Int32))), (0, .retAddr 0), (1, .ref 0), (2, .ref 19), (3, .ref 38)], [], (W9 N C E F P_85 Q T G U_87 H_87 B_87 O J V Y Z O9), k, n)) (g := True ∧ True ∧ True ∧ True ∧ True) (by with_unfolding_all rfl) ⟨trivial, trivial, trivial, trivial, trivial⟩ ?_
        refine am_ev_drop [1, 2, 3, 4, 0] rfl rfl ?_
        exact ih h
      rw [if_neg c83] at h
      refine am_ev_swne c83 ?_
      by_cases c88 : ((xs (v4).toNatClampNeg) &&& (15 : Int32)) = (12 : Int32)
      · rw [if_pos c88] at h
        refine am_ev_sweq c88 ?_
        by_cases g89 : ((v4 + (1 : Int32)) < 0 ∨ sl ≤ ((v4 + (1 : Int32))).toNatClampNeg)
        · rw [if_pos g89] at h; cases h
        rw [if_neg g89] at h
        refine am_ev_st 6 (f' := (580, [(0, .retAddr 0), (1, .ref 0), (2, .ref 19), (3, .ref 38), (4, .int v4)], [.int (xs ((v4 + (1 : Int32))).toNatClampNeg), .ref 0], (W9 N C E F P Q T G U H B O J V Y Z O9), k, n)) (g := True ∧ True ∧ True ∧ True ∧ True ∧ (0 < sl + 1 ∧ vp_in ((v4 + (1 : Int32))) sl) ∧ True) (by with_unfolding_all rfl) ⟨trivial, trivial, trivial, trivial, trivial, ⟨Nat.succ_pos _, g89⟩, trivial⟩ ?_
        replace h := Option.bind_eq_some_iff.mp h
        obtain ⟨r90, hc90, h⟩ := h
        try dsimp only at h
        refine am_ev_call (.invokevirtual 92) 68 2 313 [.ref 0, .int (xs ((v4 + (1 : Int32))).toNatClampNeg)] [] rfl rfl rfl rfl (ok_fJ_mark hc90 D (by omega)) rfl ?_
        by_cases g91 : ((v4 + (1 : Int32)) < 0 ∨ sl ≤ ((v4 + (1 : Int32))).toNatClampNeg)
        · rw [if_pos g91] at h; cases h
        rw [if_neg g91] at h
        refine am_ev_st 7 (f' := (591, [(0, .retAddr 0), (1, .ref 0), (2, .ref 19), (3, .ref 38), (4, .int v4)], [.int (xs ((v4 + (1 : Int32))).toNatClampNeg), .ref 19], (W9 N C E F P Q T G U H B O J V Y Z O9), k, n)) (g := True ∧ True ∧ True ∧ True ∧ True ∧ True ∧ (0 < sl + 1 ∧ vp_in ((v4 + (1 : Int32))) sl) ∧ True) (by with_unfolding_all rfl) ⟨trivial, trivial, trivial, trivial, trivial, trivial, ⟨Nat.succ_pos _, g91⟩, trivial⟩ ?_
        replace h := Option.bind_eq_some_iff.mp h
        obtain ⟨⟨r92, U_92⟩, hc92, h⟩ := h
        try dsimp only at h
        refine am_ev_call (.invokevirtual 95) 122 2 957 [.ref 19, .int (xs ((v4 + (1 : Int32))).toNatClampNeg)] [] rfl rfl rfl rfl (ok_fm_mark hc92 D (by omega)) rfl ?_
        refine am_ev_st 4 (f' := (23, [(4, .int (v4 + (4 : Int32))), (0, .retAddr 0), (1, .ref 0), (2, .ref 19), (3, .ref 38)], [], (W9 N C E F P Q T G U_92 H B O J V Y Z O9), k, n)) (g := True ∧ True ∧ True ∧ True ∧ True) (by with_unfolding_all rfl) ⟨trivial, trivial, trivial, trivial, trivial⟩ ?_
        refine am_ev_drop [1, 2, 3, 4, 0] rfl rfl ?_
        exact ih h
      rw [if_neg c88] at h
      refine am_ev_swne c88 ?_
      by_cases c93 : ((xs (v4).toNatClampNeg) &&& (15 : Int32)) = (13 : Int32)
      · rw [if_pos c93] at h
        refine am_ev_sweq c93 ?_
        refine am_ev_st 1 (f' := (599, [(0, .retAddr 0), (1, .ref 0), (2, .ref 19), (3, .ref 38), (4, .int v4)], [.ref 0], (W9 N C E F P Q T G U H B O J V Y Z O9), k, n)) (g := True ∧ True) (by with_unfolding_all rfl) ⟨trivial, trivial⟩ ?_
        replace h := Option.bind_eq_some_iff.mp h
        obtain ⟨⟨r94, N_94, P_94, ⟨k_94, n_94⟩⟩, hc94, h⟩ := h
        try dsimp only at h
        refine am_ev_call (.invokevirtual 96) 69 0 321 [.ref 0] [] rfl rfl rfl rfl (ok_fJ_keep hc94 D (by omega)) rfl ?_
        refine am_ev_st 2 (f' := (604, [(0, .retAddr 0), (1, .ref 0), (2, .ref 19), (3, .ref 38), (4, .int v4)], [.ref 19], (W9 N_94 C E F P_94 Q T G U H B O J V Y Z O9), k_94, n_94)) (g := True ∧ True ∧ True) (by with_unfolding_all rfl) ⟨trivial, trivial, trivial⟩ ?_
        replace h := Option.bind_eq_some_iff.mp h
        obtain ⟨⟨r95, T_95, U_95, J_95⟩, hc95, h⟩ := h
        try dsimp only at h
        refine am_ev_call (.invokevirtual 99) 124 0 961 [.ref 19] [] rfl rfl rfl rfl (ok_fm_keep hc95 D (by omega)) rfl ?_
        refine am_ev_st 4 (f' := (23, [(4, .int (v4 + (4 : Int32))), (0, .retAddr 0), (1, .ref 0), (2, .ref 19), (3, .ref 38)], [], (W9 N_94 C E F P_94 Q T_95 G U_95 H B O J_95 V Y Z O9), k_94, n_94)) (g := True ∧ True ∧ True ∧ True ∧ True) (by with_unfolding_all rfl) ⟨trivial, trivial, trivial, trivial, trivial⟩ ?_
        refine am_ev_drop [1, 2, 3, 4, 0] rfl rfl ?_
        exact ih h
      rw [if_neg c93] at h
      refine am_ev_swne c93 ?_
      by_cases c96 : ((xs (v4).toNatClampNeg) &&& (15 : Int32)) = (14 : Int32)
      · rw [if_pos c96] at h
        refine am_ev_sweq c96 ?_
        refine am_ev_st 1 (f' := (612, [(0, .retAddr 0), (1, .ref 0), (2, .ref 19), (3, .ref 38), (4, .int v4)], [.ref 0], (W9 N C E F P Q T G U H B O J V Y Z O9), k, n)) (g := True ∧ True) (by with_unfolding_all rfl) ⟨trivial, trivial⟩ ?_
        replace h := Option.bind_eq_some_iff.mp h
        obtain ⟨r97, hc97, h⟩ := h
        try dsimp only at h
        refine am_ev_call (.invokevirtual 100) 70 0 447 [.ref 0] [] rfl rfl rfl rfl (ok_fJ_reduced hc97 D (by omega)) rfl ?_
        refine am_ev_st 2 (f' := (617, [(0, .retAddr 0), (1, .ref 0), (2, .ref 19), (3, .ref 38), (4, .int v4)], [.ref 19], (W9 N C E F P Q T G U H B O J V Y Z O9), k, n)) (g := True ∧ True ∧ True) (by with_unfolding_all rfl) ⟨trivial, trivial, trivial⟩ ?_
        replace h := Option.bind_eq_some_iff.mp h
        obtain ⟨⟨r98, U_98⟩, hc98, h⟩ := h
        try dsimp only at h
        refine am_ev_call (.invokevirtual 103) 125 0 970 [.ref 19] [] rfl rfl rfl rfl (ok_fm_reduced hc98 D (by omega)) rfl ?_
        refine am_ev_st 4 (f' := (23, [(4, .int (v4 + (4 : Int32))), (0, .retAddr 0), (1, .ref 0), (2, .ref 19), (3, .ref 38)], [], (W9 N C E F P Q T G U_98 H B O J V Y Z O9), k, n)) (g := True ∧ True ∧ True ∧ True ∧ True) (by with_unfolding_all rfl) ⟨trivial, trivial, trivial, trivial, trivial⟩ ?_
        refine am_ev_drop [1, 2, 3, 4, 0] rfl rfl ?_
        exact ih h
      rw [if_neg c96] at h
      refine am_ev_swne c96 ?_
      refine am_ev_sw0 ?_
      refine am_ev_st 2 (f' := (23, [(4, .int (v4 + (4 : Int32))), (0, .retAddr 0), (1, .ref 0), (2, .ref 19), (3, .ref 38)], [], (W9 N C E F P Q T G U H B O J V Y Z O9), k, n)) (g := True ∧ True ∧ True) (by with_unfolding_all rfl) ⟨trivial, trivial, trivial⟩ ?_
      refine am_ev_drop [1, 2, 3, 4, 0] rfl rfl ?_
      exact ih h
