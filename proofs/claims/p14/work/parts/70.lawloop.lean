def lp_f_law_23 (sl : Nat) (xs : Nat → Int32) (fl : Nat) (d : Nat) : Nat → cN → cC → cE → cF → cP → cQ → cT → cG → cU → cH → cB → cO → cJ → cV → cY → cZ → cO9 → Nat → Nat → Int32 → Option (Bool × cN × cC × cE × cF × cP × cQ × cT × cG × cU × cH × cB × cO × cJ × cV × cY × cZ × cO9 × (Nat × Nat))
  | 0, _, _, _, _, _, _, _, _, _, _, _, _, _, _, _, _, _, _, _, _ => none
  | w + 1, N, C, E, F, P, Q, T, G, U, H, B, O, J, V, Y, Z, O9, k, n, v4 =>
    if ((Int32.ofNat sl) - (4 : Int32)) < v4 then
    (some (true, N, C, E, F, P, Q, T, G, U, H, B, O, J, V, Y, Z, O9, (k, n)))
    else
    if (v4 < 0 ∨ sl ≤ (v4).toNatClampNeg) then none else
    if ((xs (v4).toNatClampNeg) &&& (15 : Int32)) = (0 : Int32) then
    (if ((v4 + (1 : Int32)) < 0 ∨ sl ≤ ((v4 + (1 : Int32))).toNatClampNeg) then none else
    if ((v4 + (2 : Int32)) < 0 ∨ sl ≤ ((v4 + (2 : Int32))).toNatClampNeg) then none else
    if ((v4 + (3 : Int32)) < 0 ∨ sl ≤ ((v4 + (3 : Int32))).toNatClampNeg) then none else
    (fJ_make N C (xs ((v4 + (1 : Int32))).toNatClampNeg) (xs ((v4 + (2 : Int32))).toNatClampNeg) (xs ((v4 + (3 : Int32))).toNatClampNeg)).bind fun z7 =>
    match z7 with
    | (r7, N_7) =>
    if ((v4 + (1 : Int32)) < 0 ∨ sl ≤ ((v4 + (1 : Int32))).toNatClampNeg) then none else
    if ((v4 + (2 : Int32)) < 0 ∨ sl ≤ ((v4 + (2 : Int32))).toNatClampNeg) then none else
    if ((v4 + (3 : Int32)) < 0 ∨ sl ≤ ((v4 + (3 : Int32))).toNatClampNeg) then none else
    (fm_make T G U (xs ((v4 + (1 : Int32))).toNatClampNeg) (xs ((v4 + (2 : Int32))).toNatClampNeg) (xs ((v4 + (3 : Int32))).toNatClampNeg)).bind fun z11 =>
    match z11 with
    | (r11, T_11, U_11) =>
    lp_f_law_23 sl xs fl d w N_7 C E F P Q T_11 G U_11 H B O J V Y Z O9 k n (v4 + (4 : Int32)))
    else
    if ((xs (v4).toNatClampNeg) &&& (15 : Int32)) = (1 : Int32) then
    ((fJ_terms N).bind fun z13 =>
    match z13 with
    | (r13) =>
    (fm_terms T U).bind fun z14 =>
    match z14 with
    | (r14, U_14) =>
    lp_f_law_23 sl xs fl d w N C E F P Q T G U_14 H B O J V Y Z O9 k n (v4 + (4 : Int32)))
    else
    if ((xs (v4).toNatClampNeg) &&& (15 : Int32)) = (2 : Int32) then
    (if ((v4 + (1 : Int32)) < 0 ∨ sl ≤ ((v4 + (1 : Int32))).toNatClampNeg) then none else
    if ((v4 + (2 : Int32)) < 0 ∨ sl ≤ ((v4 + (2 : Int32))).toNatClampNeg) then none else
    (fJ_term N (xs ((v4 + (1 : Int32))).toNatClampNeg) (xs ((v4 + (2 : Int32))).toNatClampNeg)).bind fun z18 =>
    match z18 with
    | (r18) =>
    if ((v4 + (1 : Int32)) < 0 ∨ sl ≤ ((v4 + (1 : Int32))).toNatClampNeg) then none else
    if ((v4 + (2 : Int32)) < 0 ∨ sl ≤ ((v4 + (2 : Int32))).toNatClampNeg) then none else
    (fm_term T U (xs ((v4 + (1 : Int32))).toNatClampNeg) (xs ((v4 + (2 : Int32))).toNatClampNeg)).bind fun z21 =>
    match z21 with
    | (r21, U_21) =>
    lp_f_law_23 sl xs fl d w N C E F P Q T G U_21 H B O J V Y Z O9 k n (v4 + (4 : Int32)))
    else
    if ((xs (v4).toNatClampNeg) &&& (15 : Int32)) = (3 : Int32) then
    (if ((v4 + (1 : Int32)) < 0 ∨ sl ≤ ((v4 + (1 : Int32))).toNatClampNeg) then none else
    if ((v4 + (2 : Int32)) < 0 ∨ sl ≤ ((v4 + (2 : Int32))).toNatClampNeg) then none else
    (fL_infer fl d N C E F P O9 k n (xs ((v4 + (1 : Int32))).toNatClampNeg) (xs ((v4 + (2 : Int32))).toNatClampNeg)).bind fun z25 =>
    match z25 with
    | (r25, N_25, E_25, F_25, P_25, O9_25, (k_25, n_25)) =>
    if ((v4 + (1 : Int32)) < 0 ∨ sl ≤ ((v4 + (1 : Int32))).toNatClampNeg) then none else
    if ((v4 + (2 : Int32)) < 0 ∨ sl ≤ ((v4 + (2 : Int32))).toNatClampNeg) then none else
    (fm_infer fl T G U H B O J V Y Z (xs ((v4 + (1 : Int32))).toNatClampNeg) (xs ((v4 + (2 : Int32))).toNatClampNeg)).bind fun z28 =>
    match z28 with
    | (r28, U_28, H_28, B_28, O_28, J_28, V_28, Y_28, Z_28) =>
    lp_f_law_23 sl xs fl d w N_25 C E_25 F_25 P_25 Q T G U_28 H_28 B_28 O_28 J_28 V_28 Y_28 Z_28 O9_25 k_25 n_25 (v4 + (4 : Int32)))
    else
    if ((xs (v4).toNatClampNeg) &&& (15 : Int32)) = (4 : Int32) then
    (if ((v4 + (1 : Int32)) < 0 ∨ sl ≤ ((v4 + (1 : Int32))).toNatClampNeg) then none else
    if ((v4 + (2 : Int32)) < 0 ∨ sl ≤ ((v4 + (2 : Int32))).toNatClampNeg) then none else
    (fL_reduce fl d N C E F P O9 k n (xs ((v4 + (1 : Int32))).toNatClampNeg) (xs ((v4 + (2 : Int32))).toNatClampNeg)).bind fun z32 =>
    match z32 with
    | (r32, N_32, E_32, F_32, P_32, O9_32, (k_32, n_32)) =>
    if ((v4 + (1 : Int32)) < 0 ∨ sl ≤ ((v4 + (1 : Int32))).toNatClampNeg) then none else
    if ((v4 + (2 : Int32)) < 0 ∨ sl ≤ ((v4 + (2 : Int32))).toNatClampNeg) then none else
    (fm_reduce fl T G U H B O J V (xs ((v4 + (1 : Int32))).toNatClampNeg) (xs ((v4 + (2 : Int32))).toNatClampNeg)).bind fun z35 =>
    match z35 with
    | (r35, U_35, H_35, B_35, O_35, J_35, V_35) =>
    lp_f_law_23 sl xs fl d w N_32 C E_32 F_32 P_32 Q T G U_35 H_35 B_35 O_35 J_35 V_35 Y Z O9_32 k_32 n_32 (v4 + (4 : Int32)))
    else
    if ((xs (v4).toNatClampNeg) &&& (15 : Int32)) = (5 : Int32) then
    (if ((v4 + (1 : Int32)) < 0 ∨ sl ≤ ((v4 + (1 : Int32))).toNatClampNeg) then none else
    if ((v4 + (2 : Int32)) < 0 ∨ sl ≤ ((v4 + (2 : Int32))).toNatClampNeg) then none else
    if ((v4 + (3 : Int32)) < 0 ∨ sl ≤ ((v4 + (3 : Int32))).toNatClampNeg) then none else
    (fL_same fl d N C E F O9 k n (xs ((v4 + (1 : Int32))).toNatClampNeg) (xs ((v4 + (2 : Int32))).toNatClampNeg) (xs ((v4 + (3 : Int32))).toNatClampNeg)).bind fun z40 =>
    match z40 with
    | (r40, N_40, E_40, F_40, O9_40, (k_40, n_40)) =>
    if ((v4 + (1 : Int32)) < 0 ∨ sl ≤ ((v4 + (1 : Int32))).toNatClampNeg) then none else
    if ((v4 + (2 : Int32)) < 0 ∨ sl ≤ ((v4 + (2 : Int32))).toNatClampNeg) then none else
    if ((v4 + (3 : Int32)) < 0 ∨ sl ≤ ((v4 + (3 : Int32))).toNatClampNeg) then none else
    (fm_same fl T G U B O J V Z (xs ((v4 + (1 : Int32))).toNatClampNeg) (xs ((v4 + (2 : Int32))).toNatClampNeg) (xs ((v4 + (3 : Int32))).toNatClampNeg)).bind fun z44 =>
    match z44 with
    | (r44, U_44, B_44, O_44, J_44, V_44, Z_44) =>
    lp_f_law_23 sl xs fl d w N_40 C E_40 F_40 P Q T G U_44 H B_44 O_44 J_44 V_44 Y Z_44 O9_40 k_40 n_40 (v4 + (4 : Int32)))
    else
    if ((xs (v4).toNatClampNeg) &&& (15 : Int32)) = (6 : Int32) then
    (if ((v4 + (1 : Int32)) < 0 ∨ sl ≤ ((v4 + (1 : Int32))).toNatClampNeg) then none else
    if ((v4 + (2 : Int32)) < 0 ∨ sl ≤ ((v4 + (2 : Int32))).toNatClampNeg) then none else
    if ((v4 + (3 : Int32)) < 0 ∨ sl ≤ ((v4 + (3 : Int32))).toNatClampNeg) then none else
    (fL_check fl d N C E F O9 k n (xs ((v4 + (1 : Int32))).toNatClampNeg) (xs ((v4 + (2 : Int32))).toNatClampNeg) (xs ((v4 + (3 : Int32))).toNatClampNeg)).bind fun z49 =>
    match z49 with
    | (r49, N_49, E_49, F_49, O9_49, (k_49, n_49)) =>
    if ((v4 + (1 : Int32)) < 0 ∨ sl ≤ ((v4 + (1 : Int32))).toNatClampNeg) then none else
    if ((v4 + (2 : Int32)) < 0 ∨ sl ≤ ((v4 + (2 : Int32))).toNatClampNeg) then none else
    if ((v4 + (3 : Int32)) < 0 ∨ sl ≤ ((v4 + (3 : Int32))).toNatClampNeg) then none else
    (fm_check fl T G U B O J V Y Z (xs ((v4 + (1 : Int32))).toNatClampNeg) (xs ((v4 + (2 : Int32))).toNatClampNeg) (xs ((v4 + (3 : Int32))).toNatClampNeg)).bind fun z53 =>
    match z53 with
    | (r53, U_53, B_53, O_53, J_53, V_53, Y_53, Z_53) =>
    lp_f_law_23 sl xs fl d w N_49 C E_49 F_49 P Q T G U_53 H B_53 O_53 J_53 V_53 Y_53 Z_53 O9_49 k_49 n_49 (v4 + (4 : Int32)))
    else
    if ((xs (v4).toNatClampNeg) &&& (15 : Int32)) = (7 : Int32) then
    (if ((v4 + (1 : Int32)) < 0 ∨ sl ≤ ((v4 + (1 : Int32))).toNatClampNeg) then none else
    if ((v4 + (2 : Int32)) < 0 ∨ sl ≤ ((v4 + (2 : Int32))).toNatClampNeg) then none else
    (fL_declare fl d N C E F O9 k n (xs ((v4 + (1 : Int32))).toNatClampNeg) (xs ((v4 + (2 : Int32))).toNatClampNeg)).bind fun z57 =>
    match z57 with
    | (r57, N_57, C_57, E_57, F_57, O9_57, (k_57, n_57)) =>
    if ((v4 + (1 : Int32)) < 0 ∨ sl ≤ ((v4 + (1 : Int32))).toNatClampNeg) then none else
    if ((v4 + (2 : Int32)) < 0 ∨ sl ≤ ((v4 + (2 : Int32))).toNatClampNeg) then none else
    (fm_declare fl T G U B O J V Y Z (xs ((v4 + (1 : Int32))).toNatClampNeg) (xs ((v4 + (2 : Int32))).toNatClampNeg)).bind fun z60 =>
    match z60 with
    | (r60, G_60, U_60, B_60, O_60, J_60, V_60, Y_60, Z_60) =>
    lp_f_law_23 sl xs fl d w N_57 C_57 E_57 F_57 P Q T G_60 U_60 H B_60 O_60 J_60 V_60 Y_60 Z_60 O9_57 k_57 n_57 (v4 + (4 : Int32)))
    else
    if ((xs (v4).toNatClampNeg) &&& (15 : Int32)) = (8 : Int32) then
    (if ((v4 + (1 : Int32)) < 0 ∨ sl ≤ ((v4 + (1 : Int32))).toNatClampNeg) then none else
    if ((v4 + (2 : Int32)) < 0 ∨ sl ≤ ((v4 + (2 : Int32))).toNatClampNeg) then none else
    (fL_define fl d N C E F Q O9 k n (xs ((v4 + (1 : Int32))).toNatClampNeg) (xs ((v4 + (2 : Int32))).toNatClampNeg)).bind fun z64 =>
    match z64 with
    | (r64, N_64, C_64, E_64, F_64, Q_64, O9_64, (k_64, n_64)) =>
    if ((v4 + (1 : Int32)) < 0 ∨ sl ≤ ((v4 + (1 : Int32))).toNatClampNeg) then none else
    if ((v4 + (2 : Int32)) < 0 ∨ sl ≤ ((v4 + (2 : Int32))).toNatClampNeg) then none else
    (fm_define fl T G U B O J V Y Z (xs ((v4 + (1 : Int32))).toNatClampNeg) (xs ((v4 + (2 : Int32))).toNatClampNeg)).bind fun z67 =>
    match z67 with
    | (r67, G_67, U_67, B_67, O_67, J_67, V_67, Y_67, Z_67) =>
    lp_f_law_23 sl xs fl d w N_64 C_64 E_64 F_64 P Q_64 T G_67 U_67 H B_67 O_67 J_67 V_67 Y_67 Z_67 O9_64 k_64 n_64 (v4 + (4 : Int32)))
    else
    if ((xs (v4).toNatClampNeg) &&& (15 : Int32)) = (9 : Int32) then
    ((fJ_constants C).bind fun z69 =>
    match z69 with
    | (r69) =>
    (fm_constants G U).bind fun z70 =>
    match z70 with
    | (r70, U_70) =>
    lp_f_law_23 sl xs fl d w N C E F P Q T G U_70 H B O J V Y Z O9 k n (v4 + (4 : Int32)))
    else
    if ((xs (v4).toNatClampNeg) &&& (15 : Int32)) = (10 : Int32) then
    (if ((v4 + (1 : Int32)) < 0 ∨ sl ≤ ((v4 + (1 : Int32))).toNatClampNeg) then none else
    (fJ_hasBody C (xs ((v4 + (1 : Int32))).toNatClampNeg)).bind fun z73 =>
    match z73 with
    | (r73) =>
    if ((v4 + (1 : Int32)) < 0 ∨ sl ≤ ((v4 + (1 : Int32))).toNatClampNeg) then none else
    (fm_hasBody G U (xs ((v4 + (1 : Int32))).toNatClampNeg)).bind fun z75 =>
    match z75 with
    | (r75, U_75) =>
    lp_f_law_23 sl xs fl d w N C E F P Q T G U_75 H B O J V Y Z O9 k n (v4 + (4 : Int32)))
    else
    if ((xs (v4).toNatClampNeg) &&& (15 : Int32)) = (11 : Int32) then
    (if ((v4 + (1 : Int32)) < 0 ∨ sl ≤ ((v4 + (1 : Int32))).toNatClampNeg) then none else
    (fJ_typeOf d N C P (xs ((v4 + (1 : Int32))).toNatClampNeg)).bind fun z78 =>
    match z78 with
    | (r78, P_78) =>
    if ((v4 + (1 : Int32)) < 0 ∨ sl ≤ ((v4 + (1 : Int32))).toNatClampNeg) then none else
    (fm_typeOf fl G U H B (xs ((v4 + (1 : Int32))).toNatClampNeg)).bind fun z80 =>
    match z80 with
    | (r80, U_80, H_80, B_80) =>
    lp_f_law_23 sl xs fl d w N C E F P_78 Q T G U_80 H_80 B_80 O J V Y Z O9 k n (v4 + (4 : Int32)))
    else
    if ((xs (v4).toNatClampNeg) &&& (15 : Int32)) = (12 : Int32) then
    (if ((v4 + (1 : Int32)) < 0 ∨ sl ≤ ((v4 + (1 : Int32))).toNatClampNeg) then none else
    (fJ_mark P (xs ((v4 + (1 : Int32))).toNatClampNeg)).bind fun z83 =>
    match z83 with
    | (r83) =>
    if ((v4 + (1 : Int32)) < 0 ∨ sl ≤ ((v4 + (1 : Int32))).toNatClampNeg) then none else
    (fm_mark U H B (xs ((v4 + (1 : Int32))).toNatClampNeg)).bind fun z85 =>
    match z85 with
    | (r85, U_85) =>
    if r83 = r85 then
    (lp_f_law_23 sl xs fl d w N C E F P Q T G U_85 H B O J V Y Z O9 k n (v4 + (4 : Int32)))
    else
    some (false, N, C, E, F, P, Q, T, G, U_85, H, B, O, J, V, Y, Z, O9, (k, n)))
    else
    if ((xs (v4).toNatClampNeg) &&& (15 : Int32)) = (13 : Int32) then
    ((fJ_keep fl d N P k n).bind fun z88 =>
    match z88 with
    | (r88, N_88, P_88, (k_88, n_88)) =>
    (fm_keep fl T G U H B J).bind fun z89 =>
    match z89 with
    | (r89, T_89, U_89, J_89) =>
    lp_f_law_23 sl xs fl d w N_88 C E F P_88 Q T_89 G U_89 H B O J_89 V Y Z O9 k_88 n_88 (v4 + (4 : Int32)))
    else
    if ((xs (v4).toNatClampNeg) &&& (15 : Int32)) = (14 : Int32) then
    ((fJ_reduced E).bind fun z91 =>
    match z91 with
    | (r91) =>
    (fm_reduced U V).bind fun z92 =>
    match z92 with
    | (r92, U_92) =>
    lp_f_law_23 sl xs fl d w N C E F P Q T G U_92 H B O J V Y Z O9 k n (v4 + (4 : Int32)))
    else
    lp_f_law_23 sl xs fl d w N C E F P Q T G U H B O J V Y Z O9 k n (v4 + (4 : Int32))
set_option maxHeartbeats 4000000 in
set_option maxRecDepth 100000 in
theorem ok_lp_f_law_23 {sl : Nat} {xs : Nat → Int32} {fl d : Nat} : ∀ {w : Nat} {N : cN} {C : cC} {E : cE} {F : cF} {P : cP} {Q : cQ} {T : cT} {G : cG} {U : cU} {H : cH} {B : cB} {O : cO} {J : cJ} {V : cV} {Y : cY} {Z : cZ} {O9 : cO9} {k n : Nat} {v4 : Int32} {rv : Bool} {N' : cN} {C' : cC} {E' : cE} {F' : cF} {P' : cP} {Q' : cQ} {T' : cT} {G' : cG} {U' : cU} {H' : cH} {B' : cB} {O' : cO} {J' : cJ} {V' : cV} {Y' : cY} {Z' : cZ} {O9' : cO9} {k' n' : Nat} (h : lp_f_law_23 sl xs fl d w N C E F P Q T G U H B O J V Y Z O9 k n v4 = some (rv, N', C', E', F', P', Q', T', G', U', H', B', O', J', V', Y', Z', O9', (k', n'))) (D : Nat) (hD : d + 8 ≤ D), am_Ev D 131 (sl + 1) xs (23, [(0, .retAddr 0), (1, .ref 0), (2, .ref 19), (3, .ref 38), (4, .int v4)], [], (W9 N C E F P Q T G U H B O J V Y Z O9), k, n) (.inl (some (.int (am_bz rv))), W9 N' C' E' F' P' Q' T' G' U' H' B' O' J' V' Y' Z' O9', k', n') := by
  intro w
  induction w with
  | zero => intros; rename_i h _ _; cases h
  | succ w ih0 =>
    intro N C E F P Q T G U H B O J V Y Z O9 k n v4 rv N' C' E' F' P' Q' T' G' U' H' B' O' J' V' Y' Z' O9' k' n' h D hD
    have ih := fun {N} {C} {E} {F} {P} {Q} {T} {G} {U} {H} {B} {O} {J} {V} {Y} {Z} {O9} {k} {n} {v4} {rv} {N'} {C'} {E'} {F'} {P'} {Q'} {T'} {G'} {U'} {H'} {B'} {O'} {J'} {V'} {Y'} {Z'} {O9'} {k'} {n'} h => @ih0 N C E F P Q T G U H B O J V Y Z O9 k n v4 rv N' C' E' F' P' Q' T' G' U' H' B' O' J' V' Y' Z' O9' k' n' h D hD
    unfold lp_f_law_23 at h
    refine am_ev_st 6 (f' := am_br (((Int32.ofNat sl) - (4 : Int32)) < v4) 595 29 [(0, .retAddr 0), (1, .ref 0), (2, .ref 19), (3, .ref 38), (4, .int v4)] [] (W9 N C E F P Q T G U H B O J V Y Z O9) k n) (g := True ∧ True ∧ 0 < sl + 1 ∧ True ∧ True ∧ True ∧ True) (by with_unfolding_all rfl) ⟨trivial, trivial, Nat.succ_pos _, trivial, trivial, trivial, trivial⟩ ?_
    by_cases c1 : ((Int32.ofNat sl) - (4 : Int32)) < v4
    · rw [if_pos c1] at h
      refine am_ev_pos c1 ?_
      refine am_ev_st 1 (f' := (596, [(0, .retAddr 0), (1, .ref 0), (2, .ref 19), (3, .ref 38), (4, .int v4)], [.int (1 : Int32)], (W9 N C E F P Q T G U H B O J V Y Z O9), k, n)) (g := True ∧ True) (by with_unfolding_all rfl) ⟨trivial, trivial⟩ ?_
      cases h
      exact am_ev_ret 0 0 0 rfl .boolean rfl am_n1 rfl
    · rw [if_neg c1] at h
      refine am_ev_neg c1 ?_
      by_cases g2 : (v4 < 0 ∨ sl ≤ (v4).toNatClampNeg)
      · rw [if_pos g2] at h; cases h
      rw [if_neg g2] at h
      refine am_ev_st 6 (f' := ((am_tg [(0, 112), (1, 161), (2, 174), (3, 211), (4, 251), (5, 291), (6, 343), (7, 395), (8, 435), (9, 475), (10, 488), (11, 513), (12, 538), (13, 563), (14, 576)] 589 ((xs (v4).toNatClampNeg) &&& (15 : Int32))), [(0, .retAddr 0), (1, .ref 0), (2, .ref 19), (3, .ref 38), (4, .int v4)], [], (W9 N C E F P Q T G U H B O J V Y Z O9), k, n)) (g := True ∧ True ∧ (0 < sl + 1 ∧ vp_in (v4) sl) ∧ True ∧ True ∧ True ∧ True) (by with_unfolding_all rfl) ⟨trivial, trivial, ⟨Nat.succ_pos _, g2⟩, trivial, trivial, trivial, trivial⟩ ?_
      by_cases c3 : ((xs (v4).toNatClampNeg) &&& (15 : Int32)) = (0 : Int32)
      · rw [if_pos c3] at h
        refine am_ev_sweq c3 ?_
        by_cases g4 : ((v4 + (1 : Int32)) < 0 ∨ sl ≤ ((v4 + (1 : Int32))).toNatClampNeg)
        · rw [if_pos g4] at h; cases h
        rw [if_neg g4] at h
        by_cases g5 : ((v4 + (2 : Int32)) < 0 ∨ sl ≤ ((v4 + (2 : Int32))).toNatClampNeg)
        · rw [if_pos g5] at h; cases h
        rw [if_neg g5] at h
        by_cases g6 : ((v4 + (3 : Int32)) < 0 ∨ sl ≤ ((v4 + (3 : Int32))).toNatClampNeg)
        · rw [if_pos g6] at h; cases h
        rw [if_neg g6] at h
        refine am_ev_st 16 (f' := (131, [(0, .retAddr 0), (1, .ref 0), (2, .ref 19), (3, .ref 38), (4, .int v4)], [.int (xs ((v4 + (3 : Int32))).toNatClampNeg), .int (xs ((v4 + (2 : Int32))).toNatClampNeg), .int (xs ((v4 + (1 : Int32))).toNatClampNeg), .ref 0], (W9 N C E F P Q T G U H B O J V Y Z O9), k, n)) (g := True ∧ True ∧ True ∧ True ∧ True ∧ (0 < sl + 1 ∧ vp_in ((v4 + (1 : Int32))) sl) ∧ True ∧ True ∧ True ∧ True ∧ (0 < sl + 1 ∧ vp_in ((v4 + (2 : Int32))) sl) ∧ True ∧ True ∧ True ∧ True ∧ (0 < sl + 1 ∧ vp_in ((v4 + (3 : Int32))) sl) ∧ True) (by with_unfolding_all rfl) ⟨trivial, trivial, trivial, trivial, trivial, ⟨Nat.succ_pos _, g4⟩, trivial, trivial, trivial, trivial, ⟨Nat.succ_pos _, g5⟩, trivial, trivial, trivial, trivial, ⟨Nat.succ_pos _, g6⟩, trivial⟩ ?_
        replace h := Option.bind_eq_some_iff.mp h
        obtain ⟨⟨r7, N_7⟩, hc7, h⟩ := h
        try dsimp only at h
        refine am_ev_call (.invokevirtual 39) 56 6 208 [.ref 0, .int (xs ((v4 + (1 : Int32))).toNatClampNeg), .int (xs ((v4 + (2 : Int32))).toNatClampNeg), .int (xs ((v4 + (3 : Int32))).toNatClampNeg)] [] rfl rfl rfl rfl (ok_fJ_make hc7 D (by omega)) rfl ?_
        by_cases g8 : ((v4 + (1 : Int32)) < 0 ∨ sl ≤ ((v4 + (1 : Int32))).toNatClampNeg)
        · rw [if_pos g8] at h; cases h
        rw [if_neg g8] at h
        by_cases g9 : ((v4 + (2 : Int32)) < 0 ∨ sl ≤ ((v4 + (2 : Int32))).toNatClampNeg)
        · rw [if_pos g9] at h; cases h
        rw [if_neg g9] at h
        by_cases g10 : ((v4 + (3 : Int32)) < 0 ∨ sl ≤ ((v4 + (3 : Int32))).toNatClampNeg)
        · rw [if_pos g10] at h; cases h
        rw [if_neg g10] at h
        refine am_ev_st 17 (f' := (154, [(0, .retAddr 0), (1, .ref 0), (2, .ref 19), (3, .ref 38), (4, .int v4)], [.int (xs ((v4 + (3 : Int32))).toNatClampNeg), .int (xs ((v4 + (2 : Int32))).toNatClampNeg), .int (xs ((v4 + (1 : Int32))).toNatClampNeg), .ref 19], (W9 N_7 C E F P Q T G U H B O J V Y Z O9), k, n)) (g := True ∧ True ∧ True ∧ True ∧ True ∧ True ∧ (0 < sl + 1 ∧ vp_in ((v4 + (1 : Int32))) sl) ∧ True ∧ True ∧ True ∧ True ∧ (0 < sl + 1 ∧ vp_in ((v4 + (2 : Int32))) sl) ∧ True ∧ True ∧ True ∧ True ∧ (0 < sl + 1 ∧ vp_in ((v4 + (3 : Int32))) sl) ∧ True) (by with_unfolding_all rfl) ⟨trivial, trivial, trivial, trivial, trivial, trivial, ⟨Nat.succ_pos _, g8⟩, trivial, trivial, trivial, trivial, ⟨Nat.succ_pos _, g9⟩, trivial, trivial, trivial, trivial, ⟨Nat.succ_pos _, g10⟩, trivial⟩ ?_
        replace h := Option.bind_eq_some_iff.mp h
        obtain ⟨⟨r11, T_11, U_11⟩, hc11, h⟩ := h
        try dsimp only at h
        refine am_ev_call (.invokevirtual 43) 105 6 780 [.ref 19, .int (xs ((v4 + (1 : Int32))).toNatClampNeg), .int (xs ((v4 + (2 : Int32))).toNatClampNeg), .int (xs ((v4 + (3 : Int32))).toNatClampNeg)] [] rfl rfl rfl rfl (ok_fm_make hc11 D (by omega)) rfl ?_
        refine am_ev_st 4 (f' := (23, [(4, .int (v4 + (4 : Int32))), (0, .retAddr 0), (1, .ref 0), (2, .ref 19), (3, .ref 38)], [], (W9 N_7 C E F P Q T_11 G U_11 H B O J V Y Z O9), k, n)) (g := True ∧ True ∧ True ∧ True ∧ True) (by with_unfolding_all rfl) ⟨trivial, trivial, trivial, trivial, trivial⟩ ?_
        refine am_ev_drop [1, 2, 3, 4, 0] rfl rfl ?_
        exact ih h
      rw [if_neg c3] at h
      refine am_ev_swne c3 ?_
      by_cases c12 : ((xs (v4).toNatClampNeg) &&& (15 : Int32)) = (1 : Int32)
      · rw [if_pos c12] at h
        refine am_ev_sweq c12 ?_
        refine am_ev_st 1 (f' := (162, [(0, .retAddr 0), (1, .ref 0), (2, .ref 19), (3, .ref 38), (4, .int v4)], [.ref 0], (W9 N C E F P Q T G U H B O J V Y Z O9), k, n)) (g := True ∧ True) (by with_unfolding_all rfl) ⟨trivial, trivial⟩ ?_
        replace h := Option.bind_eq_some_iff.mp h
        obtain ⟨r13, hc13, h⟩ := h
        try dsimp only at h
        refine am_ev_call (.invokevirtual 44) 57 0 250 [.ref 0] [] rfl rfl rfl rfl (ok_fJ_terms hc13 D (by omega)) rfl ?_
        refine am_ev_st 2 (f' := (167, [(0, .retAddr 0), (1, .ref 0), (2, .ref 19), (3, .ref 38), (4, .int v4)], [.ref 19], (W9 N C E F P Q T G U H B O J V Y Z O9), k, n)) (g := True ∧ True ∧ True) (by with_unfolding_all rfl) ⟨trivial, trivial, trivial⟩ ?_
        replace h := Option.bind_eq_some_iff.mp h
        obtain ⟨⟨r14, U_14⟩, hc14, h⟩ := h
        try dsimp only at h
        refine am_ev_call (.invokevirtual 48) 106 0 784 [.ref 19] [] rfl rfl rfl rfl (ok_fm_terms hc14 D (by omega)) rfl ?_
        refine am_ev_st 4 (f' := (23, [(4, .int (v4 + (4 : Int32))), (0, .retAddr 0), (1, .ref 0), (2, .ref 19), (3, .ref 38)], [], (W9 N C E F P Q T G U_14 H B O J V Y Z O9), k, n)) (g := True ∧ True ∧ True ∧ True ∧ True) (by with_unfolding_all rfl) ⟨trivial, trivial, trivial, trivial, trivial⟩ ?_
        refine am_ev_drop [1, 2, 3, 4, 0] rfl rfl ?_
        exact ih h
      rw [if_neg c12] at h
      refine am_ev_swne c12 ?_
      by_cases c15 : ((xs (v4).toNatClampNeg) &&& (15 : Int32)) = (2 : Int32)
      · rw [if_pos c15] at h
        refine am_ev_sweq c15 ?_
        by_cases g16 : ((v4 + (1 : Int32)) < 0 ∨ sl ≤ ((v4 + (1 : Int32))).toNatClampNeg)
        · rw [if_pos g16] at h; cases h
        rw [if_neg g16] at h
        by_cases g17 : ((v4 + (2 : Int32)) < 0 ∨ sl ≤ ((v4 + (2 : Int32))).toNatClampNeg)
        · rw [if_pos g17] at h; cases h
        rw [if_neg g17] at h
        refine am_ev_st 11 (f' := (187, [(0, .retAddr 0), (1, .ref 0), (2, .ref 19), (3, .ref 38), (4, .int v4)], [.int (xs ((v4 + (2 : Int32))).toNatClampNeg), .int (xs ((v4 + (1 : Int32))).toNatClampNeg), .ref 0], (W9 N C E F P Q T G U H B O J V Y Z O9), k, n)) (g := True ∧ True ∧ True ∧ True ∧ True ∧ (0 < sl + 1 ∧ vp_in ((v4 + (1 : Int32))) sl) ∧ True ∧ True ∧ True ∧ True ∧ (0 < sl + 1 ∧ vp_in ((v4 + (2 : Int32))) sl) ∧ True) (by with_unfolding_all rfl) ⟨trivial, trivial, trivial, trivial, trivial, ⟨Nat.succ_pos _, g16⟩, trivial, trivial, trivial, trivial, ⟨Nat.succ_pos _, g17⟩, trivial⟩ ?_
        replace h := Option.bind_eq_some_iff.mp h
        obtain ⟨r18, hc18, h⟩ := h
        try dsimp only at h
        refine am_ev_call (.invokevirtual 49) 58 4 258 [.ref 0, .int (xs ((v4 + (1 : Int32))).toNatClampNeg), .int (xs ((v4 + (2 : Int32))).toNatClampNeg)] [] rfl rfl rfl rfl (ok_fJ_term hc18 D (by omega)) rfl ?_
        by_cases g19 : ((v4 + (1 : Int32)) < 0 ∨ sl ≤ ((v4 + (1 : Int32))).toNatClampNeg)
        · rw [if_pos g19] at h; cases h
        rw [if_neg g19] at h
        by_cases g20 : ((v4 + (2 : Int32)) < 0 ∨ sl ≤ ((v4 + (2 : Int32))).toNatClampNeg)
        · rw [if_pos g20] at h; cases h
        rw [if_neg g20] at h
        refine am_ev_st 12 (f' := (204, [(0, .retAddr 0), (1, .ref 0), (2, .ref 19), (3, .ref 38), (4, .int v4)], [.int (xs ((v4 + (2 : Int32))).toNatClampNeg), .int (xs ((v4 + (1 : Int32))).toNatClampNeg), .ref 19], (W9 N C E F P Q T G U H B O J V Y Z O9), k, n)) (g := True ∧ True ∧ True ∧ True ∧ True ∧ True ∧ (0 < sl + 1 ∧ vp_in ((v4 + (1 : Int32))) sl) ∧ True ∧ True ∧ True ∧ True ∧ (0 < sl + 1 ∧ vp_in ((v4 + (2 : Int32))) sl) ∧ True) (by with_unfolding_all rfl) ⟨trivial, trivial, trivial, trivial, trivial, trivial, ⟨Nat.succ_pos _, g19⟩, trivial, trivial, trivial, trivial, ⟨Nat.succ_pos _, g20⟩, trivial⟩ ?_
        replace h := Option.bind_eq_some_iff.mp h
        obtain ⟨⟨r21, U_21⟩, hc21, h⟩ := h
        try dsimp only at h
        refine am_ev_call (.invokevirtual 52) 108 4 788 [.ref 19, .int (xs ((v4 + (1 : Int32))).toNatClampNeg), .int (xs ((v4 + (2 : Int32))).toNatClampNeg)] [] rfl rfl rfl rfl (ok_fm_term hc21 D (by omega)) rfl ?_
        refine am_ev_st 4 (f' := (23, [(4, .int (v4 + (4 : Int32))), (0, .retAddr 0), (1, .ref 0), (2, .ref 19), (3, .ref 38)], [], (W9 N C E F P Q T G U_21 H B O J V Y Z O9), k, n)) (g := True ∧ True ∧ True ∧ True ∧ True) (by with_unfolding_all rfl) ⟨trivial, trivial, trivial, trivial, trivial⟩ ?_
        refine am_ev_drop [1, 2, 3, 4, 0] rfl rfl ?_
        exact ih h
      rw [if_neg c15] at h
      refine am_ev_swne c15 ?_
      by_cases c22 : ((xs (v4).toNatClampNeg) &&& (15 : Int32)) = (3 : Int32)
      · rw [if_pos c22] at h
        refine am_ev_sweq c22 ?_
        by_cases g23 : ((v4 + (1 : Int32)) < 0 ∨ sl ≤ ((v4 + (1 : Int32))).toNatClampNeg)
        · rw [if_pos g23] at h; cases h
        rw [if_neg g23] at h
        by_cases g24 : ((v4 + (2 : Int32)) < 0 ∨ sl ≤ ((v4 + (2 : Int32))).toNatClampNeg)
        · rw [if_pos g24] at h; cases h
        rw [if_neg g24] at h
        refine am_ev_st 12 (f' := (225, [(0, .retAddr 0), (1, .ref 0), (2, .ref 19), (3, .ref 38), (4, .int v4)], [.ref 38, .int (xs ((v4 + (2 : Int32))).toNatClampNeg), .int (xs ((v4 + (1 : Int32))).toNatClampNeg), .ref 0], (W9 N C E F P Q T G U H B O J V Y Z O9), k, n)) (g := True ∧ True ∧ True ∧ True ∧ True ∧ (0 < sl + 1 ∧ vp_in ((v4 + (1 : Int32))) sl) ∧ True ∧ True ∧ True ∧ True ∧ (0 < sl + 1 ∧ vp_in ((v4 + (2 : Int32))) sl) ∧ True ∧ True) (by with_unfolding_all rfl) ⟨trivial, trivial, trivial, trivial, trivial, ⟨Nat.succ_pos _, g23⟩, trivial, trivial, trivial, trivial, ⟨Nat.succ_pos _, g24⟩, trivial, trivial⟩ ?_
        replace h := Option.bind_eq_some_iff.mp h
        obtain ⟨⟨r25, N_25, E_25, F_25, P_25, O9_25, ⟨k_25, n_25⟩⟩, hc25, h⟩ := h
        try dsimp only at h
        refine am_ev_call (.invokestatic 53) 125 8 455 [.ref 0, .int (xs ((v4 + (1 : Int32))).toNatClampNeg), .int (xs ((v4 + (2 : Int32))).toNatClampNeg), .ref 38] [] rfl rfl rfl rfl (ok_fL_infer hc25 D (by omega)) rfl ?_
        by_cases g26 : ((v4 + (1 : Int32)) < 0 ∨ sl ≤ ((v4 + (1 : Int32))).toNatClampNeg)
        · rw [if_pos g26] at h; cases h
        rw [if_neg g26] at h
        by_cases g27 : ((v4 + (2 : Int32)) < 0 ∨ sl ≤ ((v4 + (2 : Int32))).toNatClampNeg)
        · rw [if_pos g27] at h; cases h
        rw [if_neg g27] at h
        refine am_ev_st 12 (f' := (243, [(5, .int r25), (0, .retAddr 0), (1, .ref 0), (2, .ref 19), (3, .ref 38), (4, .int v4)], [.int (xs ((v4 + (2 : Int32))).toNatClampNeg), .int (xs ((v4 + (1 : Int32))).toNatClampNeg), .ref 19], (W9 N_25 C E_25 F_25 P_25 Q T G U H B O J V Y Z O9_25), k_25, n_25)) (g := True ∧ True ∧ True ∧ True ∧ True ∧ True ∧ (0 < sl + 1 ∧ vp_in ((v4 + (1 : Int32))) sl) ∧ True ∧ True ∧ True ∧ True ∧ (0 < sl + 1 ∧ vp_in ((v4 + (2 : Int32))) sl) ∧ True) (by with_unfolding_all rfl) ⟨trivial, trivial, trivial, trivial, trivial, trivial, ⟨Nat.succ_pos _, g26⟩, trivial, trivial, trivial, trivial, ⟨Nat.succ_pos _, g27⟩, trivial⟩ ?_
        replace h := Option.bind_eq_some_iff.mp h
        obtain ⟨⟨r28, U_28, H_28, B_28, O_28, J_28, V_28, Y_28, Z_28⟩, hc28, h⟩ := h
        try dsimp only at h
        refine am_ev_call (.invokevirtual 58) 112 4 796 [.ref 19, .int (xs ((v4 + (1 : Int32))).toNatClampNeg), .int (xs ((v4 + (2 : Int32))).toNatClampNeg)] [] rfl rfl rfl rfl (ok_fm_infer hc28 D (by omega)) rfl ?_
        refine am_ev_st 4 (f' := (23, [(4, .int (v4 + (4 : Int32))), (6, .int r28), (5, .int r25), (0, .retAddr 0), (1, .ref 0), (2, .ref 19), (3, .ref 38)], [], (W9 N_25 C E_25 F_25 P_25 Q T G U_28 H_28 B_28 O_28 J_28 V_28 Y_28 Z_28 O9_25), k_25, n_25)) (g := True ∧ True ∧ True ∧ True ∧ True) (by with_unfolding_all rfl) ⟨trivial, trivial, trivial, trivial, trivial⟩ ?_
        refine am_ev_drop [3, 4, 5, 6, 0] rfl rfl ?_
        exact ih h
      rw [if_neg c22] at h
      refine am_ev_swne c22 ?_
      by_cases c29 : ((xs (v4).toNatClampNeg) &&& (15 : Int32)) = (4 : Int32)
      · rw [if_pos c29] at h
        refine am_ev_sweq c29 ?_
        by_cases g30 : ((v4 + (1 : Int32)) < 0 ∨ sl ≤ ((v4 + (1 : Int32))).toNatClampNeg)
        · rw [if_pos g30] at h; cases h
        rw [if_neg g30] at h
        by_cases g31 : ((v4 + (2 : Int32)) < 0 ∨ sl ≤ ((v4 + (2 : Int32))).toNatClampNeg)
        · rw [if_pos g31] at h; cases h
        rw [if_neg g31] at h
        refine am_ev_st 12 (f' := (265, [(0, .retAddr 0), (1, .ref 0), (2, .ref 19), (3, .ref 38), (4, .int v4)], [.ref 38, .int (xs ((v4 + (2 : Int32))).toNatClampNeg), .int (xs ((v4 + (1 : Int32))).toNatClampNeg), .ref 0], (W9 N C E F P Q T G U H B O J V Y Z O9), k, n)) (g := True ∧ True ∧ True ∧ True ∧ True ∧ (0 < sl + 1 ∧ vp_in ((v4 + (1 : Int32))) sl) ∧ True ∧ True ∧ True ∧ True ∧ (0 < sl + 1 ∧ vp_in ((v4 + (2 : Int32))) sl) ∧ True ∧ True) (by with_unfolding_all rfl) ⟨trivial, trivial, trivial, trivial, trivial, ⟨Nat.succ_pos _, g30⟩, trivial, trivial, trivial, trivial, ⟨Nat.succ_pos _, g31⟩, trivial, trivial⟩ ?_
        replace h := Option.bind_eq_some_iff.mp h
        obtain ⟨⟨r32, N_32, E_32, F_32, P_32, O9_32, ⟨k_32, n_32⟩⟩, hc32, h⟩ := h
        try dsimp only at h
        refine am_ev_call (.invokestatic 59) 126 8 618 [.ref 0, .int (xs ((v4 + (1 : Int32))).toNatClampNeg), .int (xs ((v4 + (2 : Int32))).toNatClampNeg), .ref 38] [] rfl rfl rfl rfl (ok_fL_reduce hc32 D (by omega)) rfl ?_
        by_cases g33 : ((v4 + (1 : Int32)) < 0 ∨ sl ≤ ((v4 + (1 : Int32))).toNatClampNeg)
        · rw [if_pos g33] at h; cases h
        rw [if_neg g33] at h
        by_cases g34 : ((v4 + (2 : Int32)) < 0 ∨ sl ≤ ((v4 + (2 : Int32))).toNatClampNeg)
        · rw [if_pos g34] at h; cases h
        rw [if_neg g34] at h
        refine am_ev_st 12 (f' := (283, [(5, .int r32), (0, .retAddr 0), (1, .ref 0), (2, .ref 19), (3, .ref 38), (4, .int v4)], [.int (xs ((v4 + (2 : Int32))).toNatClampNeg), .int (xs ((v4 + (1 : Int32))).toNatClampNeg), .ref 19], (W9 N_32 C E_32 F_32 P_32 Q T G U H B O J V Y Z O9_32), k_32, n_32)) (g := True ∧ True ∧ True ∧ True ∧ True ∧ True ∧ (0 < sl + 1 ∧ vp_in ((v4 + (1 : Int32))) sl) ∧ True ∧ True ∧ True ∧ True ∧ (0 < sl + 1 ∧ vp_in ((v4 + (2 : Int32))) sl) ∧ True) (by with_unfolding_all rfl) ⟨trivial, trivial, trivial, trivial, trivial, trivial, ⟨Nat.succ_pos _, g33⟩, trivial, trivial, trivial, trivial, ⟨Nat.succ_pos _, g34⟩, trivial⟩ ?_
        replace h := Option.bind_eq_some_iff.mp h
        obtain ⟨⟨r35, U_35, H_35, B_35, O_35, J_35, V_35⟩, hc35, h⟩ := h
        try dsimp only at h
        refine am_ev_call (.invokevirtual 61) 113 4 921 [.ref 19, .int (xs ((v4 + (1 : Int32))).toNatClampNeg), .int (xs ((v4 + (2 : Int32))).toNatClampNeg)] [] rfl rfl rfl rfl (ok_fm_reduce hc35 D (by omega)) rfl ?_
        refine am_ev_st 4 (f' := (23, [(4, .int (v4 + (4 : Int32))), (6, .int r35), (5, .int r32), (0, .retAddr 0), (1, .ref 0), (2, .ref 19), (3, .ref 38)], [], (W9 N_32 C E_32 F_32 P_32 Q T G U_35 H_35 B_35 O_35 J_35 V_35 Y Z O9_32), k_32, n_32)) (g := True ∧ True ∧ True ∧ True ∧ True) (by with_unfolding_all rfl) ⟨trivial, trivial, trivial, trivial, trivial⟩ ?_
        refine am_ev_drop [3, 4, 5, 6, 0] rfl rfl ?_
        exact ih h
      rw [if_neg c29] at h
      refine am_ev_swne c29 ?_
      by_cases c36 : ((xs (v4).toNatClampNeg) &&& (15 : Int32)) = (5 : Int32)
      · rw [if_pos c36] at h
        refine am_ev_sweq c36 ?_
        by_cases g37 : ((v4 + (1 : Int32)) < 0 ∨ sl ≤ ((v4 + (1 : Int32))).toNatClampNeg)
        · rw [if_pos g37] at h; cases h
        rw [if_neg g37] at h
        by_cases g38 : ((v4 + (2 : Int32)) < 0 ∨ sl ≤ ((v4 + (2 : Int32))).toNatClampNeg)
        · rw [if_pos g38] at h; cases h
        rw [if_neg g38] at h
        by_cases g39 : ((v4 + (3 : Int32)) < 0 ∨ sl ≤ ((v4 + (3 : Int32))).toNatClampNeg)
        · rw [if_pos g39] at h; cases h
        rw [if_neg g39] at h
        refine am_ev_st 17 (f' := (311, [(0, .retAddr 0), (1, .ref 0), (2, .ref 19), (3, .ref 38), (4, .int v4)], [.ref 38, .int (xs ((v4 + (3 : Int32))).toNatClampNeg), .int (xs ((v4 + (2 : Int32))).toNatClampNeg), .int (xs ((v4 + (1 : Int32))).toNatClampNeg), .ref 0], (W9 N C E F P Q T G U H B O J V Y Z O9), k, n)) (g := True ∧ True ∧ True ∧ True ∧ True ∧ (0 < sl + 1 ∧ vp_in ((v4 + (1 : Int32))) sl) ∧ True ∧ True ∧ True ∧ True ∧ (0 < sl + 1 ∧ vp_in ((v4 + (2 : Int32))) sl) ∧ True ∧ True ∧ True ∧ True ∧ (0 < sl + 1 ∧ vp_in ((v4 + (3 : Int32))) sl) ∧ True ∧ True) (by with_unfolding_all rfl) ⟨trivial, trivial, trivial, trivial, trivial, ⟨Nat.succ_pos _, g37⟩, trivial, trivial, trivial, trivial, ⟨Nat.succ_pos _, g38⟩, trivial, trivial, trivial, trivial, ⟨Nat.succ_pos _, g39⟩, trivial, trivial⟩ ?_
        replace h := Option.bind_eq_some_iff.mp h
        obtain ⟨⟨r40, N_40, E_40, F_40, O9_40, ⟨k_40, n_40⟩⟩, hc40, h⟩ := h
        try dsimp only at h
        refine am_ev_call (.invokestatic 62) 127 10 626 [.ref 0, .int (xs ((v4 + (1 : Int32))).toNatClampNeg), .int (xs ((v4 + (2 : Int32))).toNatClampNeg), .int (xs ((v4 + (3 : Int32))).toNatClampNeg), .ref 38] [] rfl rfl rfl rfl (ok_fL_same hc40 D (by omega)) rfl ?_
        by_cases g41 : ((v4 + (1 : Int32)) < 0 ∨ sl ≤ ((v4 + (1 : Int32))).toNatClampNeg)
        · rw [if_pos g41] at h; cases h
        rw [if_neg g41] at h
        by_cases g42 : ((v4 + (2 : Int32)) < 0 ∨ sl ≤ ((v4 + (2 : Int32))).toNatClampNeg)
        · rw [if_pos g42] at h; cases h
        rw [if_neg g42] at h
        by_cases g43 : ((v4 + (3 : Int32)) < 0 ∨ sl ≤ ((v4 + (3 : Int32))).toNatClampNeg)
        · rw [if_pos g43] at h; cases h
        rw [if_neg g43] at h
        refine am_ev_st 17 (f' := (335, [(5, .int r40), (0, .retAddr 0), (1, .ref 0), (2, .ref 19), (3, .ref 38), (4, .int v4)], [.int (xs ((v4 + (3 : Int32))).toNatClampNeg), .int (xs ((v4 + (2 : Int32))).toNatClampNeg), .int (xs ((v4 + (1 : Int32))).toNatClampNeg), .ref 19], (W9 N_40 C E_40 F_40 P Q T G U H B O J V Y Z O9_40), k_40, n_40)) (g := True ∧ True ∧ True ∧ True ∧ True ∧ True ∧ (0 < sl + 1 ∧ vp_in ((v4 + (1 : Int32))) sl) ∧ True ∧ True ∧ True ∧ True ∧ (0 < sl + 1 ∧ vp_in ((v4 + (2 : Int32))) sl) ∧ True ∧ True ∧ True ∧ True ∧ (0 < sl + 1 ∧ vp_in ((v4 + (3 : Int32))) sl) ∧ True) (by with_unfolding_all rfl) ⟨trivial, trivial, trivial, trivial, trivial, trivial, ⟨Nat.succ_pos _, g41⟩, trivial, trivial, trivial, trivial, ⟨Nat.succ_pos _, g42⟩, trivial, trivial, trivial, trivial, ⟨Nat.succ_pos _, g43⟩, trivial⟩ ?_
        replace h := Option.bind_eq_some_iff.mp h
        obtain ⟨⟨r44, U_44, B_44, O_44, J_44, V_44, Z_44⟩, hc44, h⟩ := h
        try dsimp only at h
        refine am_ev_call (.invokevirtual 65) 114 6 925 [.ref 19, .int (xs ((v4 + (1 : Int32))).toNatClampNeg), .int (xs ((v4 + (2 : Int32))).toNatClampNeg), .int (xs ((v4 + (3 : Int32))).toNatClampNeg)] [] rfl rfl rfl rfl (ok_fm_same hc44 D (by omega)) rfl ?_
        refine am_ev_st 4 (f' := (23, [(4, .int (v4 + (4 : Int32))), (6, .int (am_bz r44)), (5, .int r40), (0, .retAddr 0), (1, .ref 0), (2, .ref 19), (3, .ref 38)], [], (W9 N_40 C E_40 F_40 P Q T G U_44 H B_44 O_44 J_44 V_44 Y Z_44 O9_40), k_40, n_40)) (g := True ∧ True ∧ True ∧ True ∧ True) (by with_unfolding_all rfl) ⟨trivial, trivial, trivial, trivial, trivial⟩ ?_
        refine am_ev_drop [3, 4, 5, 6, 0] rfl rfl ?_
        exact ih h
      rw [if_neg c36] at h
      refine am_ev_swne c36 ?_
      by_cases c45 : ((xs (v4).toNatClampNeg) &&& (15 : Int32)) = (6 : Int32)
      · rw [if_pos c45] at h
        refine am_ev_sweq c45 ?_
        by_cases g46 : ((v4 + (1 : Int32)) < 0 ∨ sl ≤ ((v4 + (1 : Int32))).toNatClampNeg)
        · rw [if_pos g46] at h; cases h
        rw [if_neg g46] at h
        by_cases g47 : ((v4 + (2 : Int32)) < 0 ∨ sl ≤ ((v4 + (2 : Int32))).toNatClampNeg)
        · rw [if_pos g47] at h; cases h
        rw [if_neg g47] at h
        by_cases g48 : ((v4 + (3 : Int32)) < 0 ∨ sl ≤ ((v4 + (3 : Int32))).toNatClampNeg)
        · rw [if_pos g48] at h; cases h
        rw [if_neg g48] at h
        refine am_ev_st 17 (f' := (363, [(0, .retAddr 0), (1, .ref 0), (2, .ref 19), (3, .ref 38), (4, .int v4)], [.ref 38, .int (xs ((v4 + (3 : Int32))).toNatClampNeg), .int (xs ((v4 + (2 : Int32))).toNatClampNeg), .int (xs ((v4 + (1 : Int32))).toNatClampNeg), .ref 0], (W9 N C E F P Q T G U H B O J V Y Z O9), k, n)) (g := True ∧ True ∧ True ∧ True ∧ True ∧ (0 < sl + 1 ∧ vp_in ((v4 + (1 : Int32))) sl) ∧ True ∧ True ∧ True ∧ True ∧ (0 < sl + 1 ∧ vp_in ((v4 + (2 : Int32))) sl) ∧ True ∧ True ∧ True ∧ True ∧ (0 < sl + 1 ∧ vp_in ((v4 + (3 : Int32))) sl) ∧ True ∧ True) (by with_unfolding_all rfl) ⟨trivial, trivial, trivial, trivial, trivial, ⟨Nat.succ_pos _, g46⟩, trivial, trivial, trivial, trivial, ⟨Nat.succ_pos _, g47⟩, trivial, trivial, trivial, trivial, ⟨Nat.succ_pos _, g48⟩, trivial, trivial⟩ ?_
        replace h := Option.bind_eq_some_iff.mp h
        obtain ⟨⟨r49, N_49, E_49, F_49, O9_49, ⟨k_49, n_49⟩⟩, hc49, h⟩ := h
        try dsimp only at h
        refine am_ev_call (.invokestatic 66) 128 10 634 [.ref 0, .int (xs ((v4 + (1 : Int32))).toNatClampNeg), .int (xs ((v4 + (2 : Int32))).toNatClampNeg), .int (xs ((v4 + (3 : Int32))).toNatClampNeg), .ref 38] [] rfl rfl rfl rfl (ok_fL_check hc49 D (by omega)) rfl ?_
        by_cases g50 : ((v4 + (1 : Int32)) < 0 ∨ sl ≤ ((v4 + (1 : Int32))).toNatClampNeg)
        · rw [if_pos g50] at h; cases h
        rw [if_neg g50] at h
        by_cases g51 : ((v4 + (2 : Int32)) < 0 ∨ sl ≤ ((v4 + (2 : Int32))).toNatClampNeg)
        · rw [if_pos g51] at h; cases h
        rw [if_neg g51] at h
        by_cases g52 : ((v4 + (3 : Int32)) < 0 ∨ sl ≤ ((v4 + (3 : Int32))).toNatClampNeg)
        · rw [if_pos g52] at h; cases h
        rw [if_neg g52] at h
        refine am_ev_st 17 (f' := (387, [(5, .int r49), (0, .retAddr 0), (1, .ref 0), (2, .ref 19), (3, .ref 38), (4, .int v4)], [.int (xs ((v4 + (3 : Int32))).toNatClampNeg), .int (xs ((v4 + (2 : Int32))).toNatClampNeg), .int (xs ((v4 + (1 : Int32))).toNatClampNeg), .ref 19], (W9 N_49 C E_49 F_49 P Q T G U H B O J V Y Z O9_49), k_49, n_49)) (g := True ∧ True ∧ True ∧ True ∧ True ∧ True ∧ (0 < sl + 1 ∧ vp_in ((v4 + (1 : Int32))) sl) ∧ True ∧ True ∧ True ∧ True ∧ (0 < sl + 1 ∧ vp_in ((v4 + (2 : Int32))) sl) ∧ True ∧ True ∧ True ∧ True ∧ (0 < sl + 1 ∧ vp_in ((v4 + (3 : Int32))) sl) ∧ True) (by with_unfolding_all rfl) ⟨trivial, trivial, trivial, trivial, trivial, trivial, ⟨Nat.succ_pos _, g50⟩, trivial, trivial, trivial, trivial, ⟨Nat.succ_pos _, g51⟩, trivial, trivial, trivial, trivial, ⟨Nat.succ_pos _, g52⟩, trivial⟩ ?_
        replace h := Option.bind_eq_some_iff.mp h
        obtain ⟨⟨r53, U_53, B_53, O_53, J_53, V_53, Y_53, Z_53⟩, hc53, h⟩ := h
        try dsimp only at h
        refine am_ev_call (.invokevirtual 68) 115 6 929 [.ref 19, .int (xs ((v4 + (1 : Int32))).toNatClampNeg), .int (xs ((v4 + (2 : Int32))).toNatClampNeg), .int (xs ((v4 + (3 : Int32))).toNatClampNeg)] [] rfl rfl rfl rfl (ok_fm_check hc53 D (by omega)) rfl ?_
        refine am_ev_st 4 (f' := (23, [(4, .int (v4 + (4 : Int32))), (6, .int (am_bz r53)), (5, .int r49), (0, .retAddr 0), (1, .ref 0), (2, .ref 19), (3, .ref 38)], [], (W9 N_49 C E_49 F_49 P Q T G U_53 H B_53 O_53 J_53 V_53 Y_53 Z_53 O9_49), k_49, n_49)) (g := True ∧ True ∧ True ∧ True ∧ True) (by with_unfolding_all rfl) ⟨trivial, trivial, trivial, trivial, trivial⟩ ?_
        refine am_ev_drop [3, 4, 5, 6, 0] rfl rfl ?_
        exact ih h
      rw [if_neg c45] at h
      refine am_ev_swne c45 ?_
      by_cases c54 : ((xs (v4).toNatClampNeg) &&& (15 : Int32)) = (7 : Int32)
      · rw [if_pos c54] at h
        refine am_ev_sweq c54 ?_
        by_cases g55 : ((v4 + (1 : Int32)) < 0 ∨ sl ≤ ((v4 + (1 : Int32))).toNatClampNeg)
        · rw [if_pos g55] at h; cases h
        rw [if_neg g55] at h
        by_cases g56 : ((v4 + (2 : Int32)) < 0 ∨ sl ≤ ((v4 + (2 : Int32))).toNatClampNeg)
        · rw [if_pos g56] at h; cases h
        rw [if_neg g56] at h
        refine am_ev_st 12 (f' := (409, [(0, .retAddr 0), (1, .ref 0), (2, .ref 19), (3, .ref 38), (4, .int v4)], [.ref 38, .int (xs ((v4 + (2 : Int32))).toNatClampNeg), .int (xs ((v4 + (1 : Int32))).toNatClampNeg), .ref 0], (W9 N C E F P Q T G U H B O J V Y Z O9), k, n)) (g := True ∧ True ∧ True ∧ True ∧ True ∧ (0 < sl + 1 ∧ vp_in ((v4 + (1 : Int32))) sl) ∧ True ∧ True ∧ True ∧ True ∧ (0 < sl + 1 ∧ vp_in ((v4 + (2 : Int32))) sl) ∧ True ∧ True) (by with_unfolding_all rfl) ⟨trivial, trivial, trivial, trivial, trivial, ⟨Nat.succ_pos _, g55⟩, trivial, trivial, trivial, trivial, ⟨Nat.succ_pos _, g56⟩, trivial, trivial⟩ ?_
        replace h := Option.bind_eq_some_iff.mp h
        obtain ⟨⟨r57, N_57, C_57, E_57, F_57, O9_57, ⟨k_57, n_57⟩⟩, hc57, h⟩ := h
        try dsimp only at h
        refine am_ev_call (.invokestatic 69) 129 8 642 [.ref 0, .int (xs ((v4 + (1 : Int32))).toNatClampNeg), .int (xs ((v4 + (2 : Int32))).toNatClampNeg), .ref 38] [] rfl rfl rfl rfl (ok_fL_declare hc57 D (by omega)) rfl ?_
        by_cases g58 : ((v4 + (1 : Int32)) < 0 ∨ sl ≤ ((v4 + (1 : Int32))).toNatClampNeg)
        · rw [if_pos g58] at h; cases h
        rw [if_neg g58] at h
        by_cases g59 : ((v4 + (2 : Int32)) < 0 ∨ sl ≤ ((v4 + (2 : Int32))).toNatClampNeg)
        · rw [if_pos g59] at h; cases h
        rw [if_neg g59] at h
        refine am_ev_st 12 (f' := (427, [(5, .int r57), (0, .retAddr 0), (1, .ref 0), (2, .ref 19), (3, .ref 38), (4, .int v4)], [.int (xs ((v4 + (2 : Int32))).toNatClampNeg), .int (xs ((v4 + (1 : Int32))).toNatClampNeg), .ref 19], (W9 N_57 C_57 E_57 F_57 P Q T G U H B O J V Y Z O9_57), k_57, n_57)) (g := True ∧ True ∧ True ∧ True ∧ True ∧ True ∧ (0 < sl + 1 ∧ vp_in ((v4 + (1 : Int32))) sl) ∧ True ∧ True ∧ True ∧ True ∧ (0 < sl + 1 ∧ vp_in ((v4 + (2 : Int32))) sl) ∧ True) (by with_unfolding_all rfl) ⟨trivial, trivial, trivial, trivial, trivial, trivial, ⟨Nat.succ_pos _, g58⟩, trivial, trivial, trivial, trivial, ⟨Nat.succ_pos _, g59⟩, trivial⟩ ?_
        replace h := Option.bind_eq_some_iff.mp h
        obtain ⟨⟨r60, G_60, U_60, B_60, O_60, J_60, V_60, Y_60, Z_60⟩, hc60, h⟩ := h
        try dsimp only at h
        refine am_ev_call (.invokevirtual 71) 116 4 933 [.ref 19, .int (xs ((v4 + (1 : Int32))).toNatClampNeg), .int (xs ((v4 + (2 : Int32))).toNatClampNeg)] [] rfl rfl rfl rfl (ok_fm_declare hc60 D (by omega)) rfl ?_
        refine am_ev_st 4 (f' := (23, [(4, .int (v4 + (4 : Int32))), (6, .int r60), (5, .int r57), (0, .retAddr 0), (1, .ref 0), (2, .ref 19), (3, .ref 38)], [], (W9 N_57 C_57 E_57 F_57 P Q T G_60 U_60 H B_60 O_60 J_60 V_60 Y_60 Z_60 O9_57), k_57, n_57)) (g := True ∧ True ∧ True ∧ True ∧ True) (by with_unfolding_all rfl) ⟨trivial, trivial, trivial, trivial, trivial⟩ ?_
        refine am_ev_drop [3, 4, 5, 6, 0] rfl rfl ?_
        exact ih h
      rw [if_neg c54] at h
      refine am_ev_swne c54 ?_
      by_cases c61 : ((xs (v4).toNatClampNeg) &&& (15 : Int32)) = (8 : Int32)
      · rw [if_pos c61] at h
        refine am_ev_sweq c61 ?_
        by_cases g62 : ((v4 + (1 : Int32)) < 0 ∨ sl ≤ ((v4 + (1 : Int32))).toNatClampNeg)
        · rw [if_pos g62] at h; cases h
        rw [if_neg g62] at h
        by_cases g63 : ((v4 + (2 : Int32)) < 0 ∨ sl ≤ ((v4 + (2 : Int32))).toNatClampNeg)
        · rw [if_pos g63] at h; cases h
        rw [if_neg g63] at h
        refine am_ev_st 12 (f' := (449, [(0, .retAddr 0), (1, .ref 0), (2, .ref 19), (3, .ref 38), (4, .int v4)], [.ref 38, .int (xs ((v4 + (2 : Int32))).toNatClampNeg), .int (xs ((v4 + (1 : Int32))).toNatClampNeg), .ref 0], (W9 N C E F P Q T G U H B O J V Y Z O9), k, n)) (g := True ∧ True ∧ True ∧ True ∧ True ∧ (0 < sl + 1 ∧ vp_in ((v4 + (1 : Int32))) sl) ∧ True ∧ True ∧ True ∧ True ∧ (0 < sl + 1 ∧ vp_in ((v4 + (2 : Int32))) sl) ∧ True ∧ True) (by with_unfolding_all rfl) ⟨trivial, trivial, trivial, trivial, trivial, ⟨Nat.succ_pos _, g62⟩, trivial, trivial, trivial, trivial, ⟨Nat.succ_pos _, g63⟩, trivial, trivial⟩ ?_
        replace h := Option.bind_eq_some_iff.mp h
        obtain ⟨⟨r64, N_64, C_64, E_64, F_64, Q_64, O9_64, ⟨k_64, n_64⟩⟩, hc64, h⟩ := h
        try dsimp only at h
        refine am_ev_call (.invokestatic 72) 130 8 661 [.ref 0, .int (xs ((v4 + (1 : Int32))).toNatClampNeg), .int (xs ((v4 + (2 : Int32))).toNatClampNeg), .ref 38] [] rfl rfl rfl rfl (ok_fL_define hc64 D (by omega)) rfl ?_
        by_cases g65 : ((v4 + (1 : Int32)) < 0 ∨ sl ≤ ((v4 + (1 : Int32))).toNatClampNeg)
        · rw [if_pos g65] at h; cases h
        rw [if_neg g65] at h
        by_cases g66 : ((v4 + (2 : Int32)) < 0 ∨ sl ≤ ((v4 + (2 : Int32))).toNatClampNeg)
        · rw [if_pos g66] at h; cases h
        rw [if_neg g66] at h
        refine am_ev_st 12 (f' := (467, [(5, .int r64), (0, .retAddr 0), (1, .ref 0), (2, .ref 19), (3, .ref 38), (4, .int v4)], [.int (xs ((v4 + (2 : Int32))).toNatClampNeg), .int (xs ((v4 + (1 : Int32))).toNatClampNeg), .ref 19], (W9 N_64 C_64 E_64 F_64 P Q_64 T G U H B O J V Y Z O9_64), k_64, n_64)) (g := True ∧ True ∧ True ∧ True ∧ True ∧ True ∧ (0 < sl + 1 ∧ vp_in ((v4 + (1 : Int32))) sl) ∧ True ∧ True ∧ True ∧ True ∧ (0 < sl + 1 ∧ vp_in ((v4 + (2 : Int32))) sl) ∧ True) (by with_unfolding_all rfl) ⟨trivial, trivial, trivial, trivial, trivial, trivial, ⟨Nat.succ_pos _, g65⟩, trivial, trivial, trivial, trivial, ⟨Nat.succ_pos _, g66⟩, trivial⟩ ?_
        replace h := Option.bind_eq_some_iff.mp h
        obtain ⟨⟨r67, G_67, U_67, B_67, O_67, J_67, V_67, Y_67, Z_67⟩, hc67, h⟩ := h
        try dsimp only at h
        refine am_ev_call (.invokevirtual 74) 117 4 937 [.ref 19, .int (xs ((v4 + (1 : Int32))).toNatClampNeg), .int (xs ((v4 + (2 : Int32))).toNatClampNeg)] [] rfl rfl rfl rfl (ok_fm_define hc67 D (by omega)) rfl ?_
        refine am_ev_st 4 (f' := (23, [(4, .int (v4 + (4 : Int32))), (6, .int r67), (5, .int r64), (0, .retAddr 0), (1, .ref 0), (2, .ref 19), (3, .ref 38)], [], (W9 N_64 C_64 E_64 F_64 P Q_64 T G_67 U_67 H B_67 O_67 J_67 V_67 Y_67 Z_67 O9_64), k_64, n_64)) (g := True ∧ True ∧ True ∧ True ∧ True) (by with_unfolding_all rfl) ⟨trivial, trivial, trivial, trivial, trivial⟩ ?_
        refine am_ev_drop [3, 4, 5, 6, 0] rfl rfl ?_
        exact ih h
      rw [if_neg c61] at h
      refine am_ev_swne c61 ?_
      by_cases c68 : ((xs (v4).toNatClampNeg) &&& (15 : Int32)) = (9 : Int32)
      · rw [if_pos c68] at h
        refine am_ev_sweq c68 ?_
        refine am_ev_st 1 (f' := (476, [(0, .retAddr 0), (1, .ref 0), (2, .ref 19), (3, .ref 38), (4, .int v4)], [.ref 0], (W9 N C E F P Q T G U H B O J V Y Z O9), k, n)) (g := True ∧ True) (by with_unfolding_all rfl) ⟨trivial, trivial⟩ ?_
        replace h := Option.bind_eq_some_iff.mp h
        obtain ⟨r69, hc69, h⟩ := h
        try dsimp only at h
        refine am_ev_call (.invokevirtual 75) 65 0 276 [.ref 0] [] rfl rfl rfl rfl (ok_fJ_constants hc69 D (by omega)) rfl ?_
        refine am_ev_st 2 (f' := (481, [(0, .retAddr 0), (1, .ref 0), (2, .ref 19), (3, .ref 38), (4, .int v4)], [.ref 19], (W9 N C E F P Q T G U H B O J V Y Z O9), k, n)) (g := True ∧ True ∧ True) (by with_unfolding_all rfl) ⟨trivial, trivial, trivial⟩ ?_
        replace h := Option.bind_eq_some_iff.mp h
        obtain ⟨⟨r70, U_70⟩, hc70, h⟩ := h
        try dsimp only at h
        refine am_ev_call (.invokevirtual 78) 118 0 941 [.ref 19] [] rfl rfl rfl rfl (ok_fm_constants hc70 D (by omega)) rfl ?_
        refine am_ev_st 4 (f' := (23, [(4, .int (v4 + (4 : Int32))), (0, .retAddr 0), (1, .ref 0), (2, .ref 19), (3, .ref 38)], [], (W9 N C E F P Q T G U_70 H B O J V Y Z O9), k, n)) (g := True ∧ True ∧ True ∧ True ∧ True) (by with_unfolding_all rfl) ⟨trivial, trivial, trivial, trivial, trivial⟩ ?_
        refine am_ev_drop [1, 2, 3, 4, 0] rfl rfl ?_
        exact ih h
      rw [if_neg c68] at h
      refine am_ev_swne c68 ?_
      by_cases c71 : ((xs (v4).toNatClampNeg) &&& (15 : Int32)) = (10 : Int32)
      · rw [if_pos c71] at h
        refine am_ev_sweq c71 ?_
        by_cases g72 : ((v4 + (1 : Int32)) < 0 ∨ sl ≤ ((v4 + (1 : Int32))).toNatClampNeg)
        · rw [if_pos g72] at h; cases h
        rw [if_neg g72] at h
        refine am_ev_st 6 (f' := (495, [(0, .retAddr 0), (1, .ref 0), (2, .ref 19), (3, .ref 38), (4, .int v4)], [.int (xs ((v4 + (1 : Int32))).toNatClampNeg), .ref 0], (W9 N C E F P Q T G U H B O J V Y Z O9), k, n)) (g := True ∧ True ∧ True ∧ True ∧ True ∧ (0 < sl + 1 ∧ vp_in ((v4 + (1 : Int32))) sl) ∧ True) (by with_unfolding_all rfl) ⟨trivial, trivial, trivial, trivial, trivial, ⟨Nat.succ_pos _, g72⟩, trivial⟩ ?_
        replace h := Option.bind_eq_some_iff.mp h
        obtain ⟨r73, hc73, h⟩ := h
        try dsimp only at h
        refine am_ev_call (.invokevirtual 79) 66 2 284 [.ref 0, .int (xs ((v4 + (1 : Int32))).toNatClampNeg)] [] rfl rfl rfl rfl (ok_fJ_hasBody hc73 D (by omega)) rfl ?_
        by_cases g74 : ((v4 + (1 : Int32)) < 0 ∨ sl ≤ ((v4 + (1 : Int32))).toNatClampNeg)
        · rw [if_pos g74] at h; cases h
        rw [if_neg g74] at h
        refine am_ev_st 7 (f' := (506, [(0, .retAddr 0), (1, .ref 0), (2, .ref 19), (3, .ref 38), (4, .int v4)], [.int (xs ((v4 + (1 : Int32))).toNatClampNeg), .ref 19], (W9 N C E F P Q T G U H B O J V Y Z O9), k, n)) (g := True ∧ True ∧ True ∧ True ∧ True ∧ True ∧ (0 < sl + 1 ∧ vp_in ((v4 + (1 : Int32))) sl) ∧ True) (by with_unfolding_all rfl) ⟨trivial, trivial, trivial, trivial, trivial, trivial, ⟨Nat.succ_pos _, g74⟩, trivial⟩ ?_
        replace h := Option.bind_eq_some_iff.mp h
        obtain ⟨⟨r75, U_75⟩, hc75, h⟩ := h
        try dsimp only at h
        refine am_ev_call (.invokevirtual 83) 119 2 945 [.ref 19, .int (xs ((v4 + (1 : Int32))).toNatClampNeg)] [] rfl rfl rfl rfl (ok_fm_hasBody hc75 D (by omega)) rfl ?_
        refine am_ev_st 4 (f' := (23, [(4, .int (v4 + (4 : Int32))), (0, .retAddr 0), (1, .ref 0), (2, .ref 19), (3, .ref 38)], [], (W9 N C E F P Q T G U_75 H B O J V Y Z O9), k, n)) (g := True ∧ True ∧ True ∧ True ∧ True) (by with_unfolding_all rfl) ⟨trivial, trivial, trivial, trivial, trivial⟩ ?_
        refine am_ev_drop [1, 2, 3, 4, 0] rfl rfl ?_
        exact ih h
      rw [if_neg c71] at h
      refine am_ev_swne c71 ?_
      by_cases c76 : ((xs (v4).toNatClampNeg) &&& (15 : Int32)) = (11 : Int32)
      · rw [if_pos c76] at h
        refine am_ev_sweq c76 ?_
        by_cases g77 : ((v4 + (1 : Int32)) < 0 ∨ sl ≤ ((v4 + (1 : Int32))).toNatClampNeg)
        · rw [if_pos g77] at h; cases h
        rw [if_neg g77] at h
        refine am_ev_st 6 (f' := (520, [(0, .retAddr 0), (1, .ref 0), (2, .ref 19), (3, .ref 38), (4, .int v4)], [.int (xs ((v4 + (1 : Int32))).toNatClampNeg), .ref 0], (W9 N C E F P Q T G U H B O J V Y Z O9), k, n)) (g := True ∧ True ∧ True ∧ True ∧ True ∧ (0 < sl + 1 ∧ vp_in ((v4 + (1 : Int32))) sl) ∧ True) (by with_unfolding_all rfl) ⟨trivial, trivial, trivial, trivial, trivial, ⟨Nat.succ_pos _, g77⟩, trivial⟩ ?_
        replace h := Option.bind_eq_some_iff.mp h
        obtain ⟨⟨r78, P_78⟩, hc78, h⟩ := h
        try dsimp only at h
        refine am_ev_call (.invokevirtual 84) 67 2 293 [.ref 0, .int (xs ((v4 + (1 : Int32))).toNatClampNeg)] [] rfl rfl rfl rfl (ok_fJ_typeOf hc78 D (by omega)) rfl ?_
        by_cases g79 : ((v4 + (1 : Int32)) < 0 ∨ sl ≤ ((v4 + (1 : Int32))).toNatClampNeg)
        · rw [if_pos g79] at h; cases h
        rw [if_neg g79] at h
        refine am_ev_st 7 (f' := (531, [(0, .retAddr 0), (1, .ref 0), (2, .ref 19), (3, .ref 38), (4, .int v4)], [.int (xs ((v4 + (1 : Int32))).toNatClampNeg), .ref 19], (W9 N C E F P_78 Q T G U H B O J V Y Z O9), k, n)) (g := True ∧ True ∧ True ∧ True ∧ True ∧ True ∧ (0 < sl + 1 ∧ vp_in ((v4 + (1 : Int32))) sl) ∧ True) (by with_unfolding_all rfl) ⟨trivial, trivial, trivial, trivial, trivial, trivial, ⟨Nat.succ_pos _, g79⟩, trivial⟩ ?_
        replace h := Option.bind_eq_some_iff.mp h
        obtain ⟨⟨r80, U_80, H_80, B_80⟩, hc80, h⟩ := h
        try dsimp only at h
        refine am_ev_call (.invokevirtual 88) 120 2 949 [.ref 19, .int (xs ((v4 + (1 : Int32))).toNatClampNeg)] [] rfl rfl rfl rfl (ok_fm_typeOf hc80 D (by omega)) rfl ?_
        refine am_ev_st 4 (f' := (23, [(4, .int (v4 + (4 : Int32))), (0, .retAddr 0), (1, .ref 0), (2, .ref 19), (3, .ref 38)], [], (W9 N C E F P_78 Q T G U_80 H_80 B_80 O J V Y Z O9), k, n)) (g := True ∧ True ∧ True ∧ True ∧ True) (by with_unfolding_all rfl) ⟨trivial, trivial, trivial, trivial, trivial⟩ ?_
        refine am_ev_drop [1, 2, 3, 4, 0] rfl rfl ?_
        exact ih h
      rw [if_neg c76] at h
      refine am_ev_swne c76 ?_
      by_cases c81 : ((xs (v4).toNatClampNeg) &&& (15 : Int32)) = (12 : Int32)
      · rw [if_pos c81] at h
        refine am_ev_sweq c81 ?_
        by_cases g82 : ((v4 + (1 : Int32)) < 0 ∨ sl ≤ ((v4 + (1 : Int32))).toNatClampNeg)
        · rw [if_pos g82] at h; cases h
        rw [if_neg g82] at h
        refine am_ev_st 6 (f' := (545, [(0, .retAddr 0), (1, .ref 0), (2, .ref 19), (3, .ref 38), (4, .int v4)], [.int (xs ((v4 + (1 : Int32))).toNatClampNeg), .ref 0], (W9 N C E F P Q T G U H B O J V Y Z O9), k, n)) (g := True ∧ True ∧ True ∧ True ∧ True ∧ (0 < sl + 1 ∧ vp_in ((v4 + (1 : Int32))) sl) ∧ True) (by with_unfolding_all rfl) ⟨trivial, trivial, trivial, trivial, trivial, ⟨Nat.succ_pos _, g82⟩, trivial⟩ ?_
        replace h := Option.bind_eq_some_iff.mp h
        obtain ⟨r83, hc83, h⟩ := h
        try dsimp only at h
        refine am_ev_call (.invokevirtual 89) 68 2 313 [.ref 0, .int (xs ((v4 + (1 : Int32))).toNatClampNeg)] [] rfl rfl rfl rfl (ok_fJ_mark hc83 D (by omega)) rfl ?_
        by_cases g84 : ((v4 + (1 : Int32)) < 0 ∨ sl ≤ ((v4 + (1 : Int32))).toNatClampNeg)
        · rw [if_pos g84] at h; cases h
        rw [if_neg g84] at h
        refine am_ev_st 6 (f' := (555, [(0, .retAddr 0), (1, .ref 0), (2, .ref 19), (3, .ref 38), (4, .int v4)], [.int (xs ((v4 + (1 : Int32))).toNatClampNeg), .ref 19, .int r83], (W9 N C E F P Q T G U H B O J V Y Z O9), k, n)) (g := True ∧ True ∧ True ∧ True ∧ True ∧ (0 < sl + 1 ∧ vp_in ((v4 + (1 : Int32))) sl) ∧ True) (by with_unfolding_all rfl) ⟨trivial, trivial, trivial, trivial, trivial, ⟨Nat.succ_pos _, g84⟩, trivial⟩ ?_
        replace h := Option.bind_eq_some_iff.mp h
        obtain ⟨⟨r85, U_85⟩, hc85, h⟩ := h
        try dsimp only at h
        refine am_ev_call (.invokevirtual 92) 121 2 953 [.ref 19, .int (xs ((v4 + (1 : Int32))).toNatClampNeg)] [.int r83] rfl rfl rfl rfl (ok_fm_mark hc85 D (by omega)) rfl ?_
        refine am_ev_st 1 (f' := am_br (r83 = r85) 589 558 [(0, .retAddr 0), (1, .ref 0), (2, .ref 19), (3, .ref 38), (4, .int v4)] [] (W9 N C E F P Q T G U_85 H B O J V Y Z O9) k n) (g := True ∧ True) (by with_unfolding_all rfl) ⟨trivial, trivial⟩ ?_
        by_cases c86 : r83 = r85
        · rw [if_pos c86] at h
          refine am_ev_pos c86 ?_
          refine am_ev_st 2 (f' := (23, [(4, .int (v4 + (4 : Int32))), (0, .retAddr 0), (1, .ref 0), (2, .ref 19), (3, .ref 38)], [], (W9 N C E F P Q T G U_85 H B O J V Y Z O9), k, n)) (g := True ∧ True ∧ True) (by with_unfolding_all rfl) ⟨trivial, trivial, trivial⟩ ?_
          refine am_ev_drop [1, 2, 3, 4, 0] rfl rfl ?_
          exact ih h
        · rw [if_neg c86] at h
          refine am_ev_neg c86 ?_
          refine am_ev_st 1 (f' := (562, [(0, .retAddr 0), (1, .ref 0), (2, .ref 19), (3, .ref 38), (4, .int v4)], [.int (0 : Int32)], (W9 N C E F P Q T G U_85 H B O J V Y Z O9), k, n)) (g := True ∧ True) (by with_unfolding_all rfl) ⟨trivial, trivial⟩ ?_
          cases h
          exact am_ev_ret 0 0 0 rfl .boolean rfl am_n0 rfl
      rw [if_neg c81] at h
      refine am_ev_swne c81 ?_
      by_cases c87 : ((xs (v4).toNatClampNeg) &&& (15 : Int32)) = (13 : Int32)
      · rw [if_pos c87] at h
        refine am_ev_sweq c87 ?_
        refine am_ev_st 1 (f' := (564, [(0, .retAddr 0), (1, .ref 0), (2, .ref 19), (3, .ref 38), (4, .int v4)], [.ref 0], (W9 N C E F P Q T G U H B O J V Y Z O9), k, n)) (g := True ∧ True) (by with_unfolding_all rfl) ⟨trivial, trivial⟩ ?_
        replace h := Option.bind_eq_some_iff.mp h
        obtain ⟨⟨r88, N_88, P_88, ⟨k_88, n_88⟩⟩, hc88, h⟩ := h
        try dsimp only at h
        refine am_ev_call (.invokevirtual 93) 69 0 321 [.ref 0] [] rfl rfl rfl rfl (ok_fJ_keep hc88 D (by omega)) rfl ?_
        refine am_ev_st 2 (f' := (569, [(0, .retAddr 0), (1, .ref 0), (2, .ref 19), (3, .ref 38), (4, .int v4)], [.ref 19], (W9 N_88 C E F P_88 Q T G U H B O J V Y Z O9), k_88, n_88)) (g := True ∧ True ∧ True) (by with_unfolding_all rfl) ⟨trivial, trivial, trivial⟩ ?_
        replace h := Option.bind_eq_some_iff.mp h
        obtain ⟨⟨r89, T_89, U_89, J_89⟩, hc89, h⟩ := h
        try dsimp only at h
        refine am_ev_call (.invokevirtual 96) 123 0 957 [.ref 19] [] rfl rfl rfl rfl (ok_fm_keep hc89 D (by omega)) rfl ?_
        refine am_ev_st 4 (f' := (23, [(4, .int (v4 + (4 : Int32))), (0, .retAddr 0), (1, .ref 0), (2, .ref 19), (3, .ref 38)], [], (W9 N_88 C E F P_88 Q T_89 G U_89 H B O J_89 V Y Z O9), k_88, n_88)) (g := True ∧ True ∧ True ∧ True ∧ True) (by with_unfolding_all rfl) ⟨trivial, trivial, trivial, trivial, trivial⟩ ?_
        refine am_ev_drop [1, 2, 3, 4, 0] rfl rfl ?_
        exact ih h
      rw [if_neg c87] at h
      refine am_ev_swne c87 ?_
      by_cases c90 : ((xs (v4).toNatClampNeg) &&& (15 : Int32)) = (14 : Int32)
      · rw [if_pos c90] at h
        refine am_ev_sweq c90 ?_
        refine am_ev_st 1 (f' := (577, [(0, .retAddr 0), (1, .ref 0), (2, .ref 19), (3, .ref 38), (4, .int v4)], [.ref 0], (W9 N C E F P Q T G U H B O J V Y Z O9), k, n)) (g := True ∧ True) (by with_unfolding_all rfl) ⟨trivial, trivial⟩ ?_
        replace h := Option.bind_eq_some_iff.mp h
        obtain ⟨r91, hc91, h⟩ := h
        try dsimp only at h
        refine am_ev_call (.invokevirtual 97) 70 0 447 [.ref 0] [] rfl rfl rfl rfl (ok_fJ_reduced hc91 D (by omega)) rfl ?_
        refine am_ev_st 2 (f' := (582, [(0, .retAddr 0), (1, .ref 0), (2, .ref 19), (3, .ref 38), (4, .int v4)], [.ref 19], (W9 N C E F P Q T G U H B O J V Y Z O9), k, n)) (g := True ∧ True ∧ True) (by with_unfolding_all rfl) ⟨trivial, trivial, trivial⟩ ?_
        replace h := Option.bind_eq_some_iff.mp h
        obtain ⟨⟨r92, U_92⟩, hc92, h⟩ := h
        try dsimp only at h
        refine am_ev_call (.invokevirtual 100) 124 0 966 [.ref 19] [] rfl rfl rfl rfl (ok_fm_reduced hc92 D (by omega)) rfl ?_
        refine am_ev_st 4 (f' := (23, [(4, .int (v4 + (4 : Int32))), (0, .retAddr 0), (1, .ref 0), (2, .ref 19), (3, .ref 38)], [], (W9 N C E F P Q T G U_92 H B O J V Y Z O9), k, n)) (g := True ∧ True ∧ True ∧ True ∧ True) (by with_unfolding_all rfl) ⟨trivial, trivial, trivial, trivial, trivial⟩ ?_
        refine am_ev_drop [1, 2, 3, 4, 0] rfl rfl ?_
        exact ih h
      rw [if_neg c90] at h
      refine am_ev_swne c90 ?_
      refine am_ev_sw0 ?_
      refine am_ev_st 2 (f' := (23, [(4, .int (v4 + (4 : Int32))), (0, .retAddr 0), (1, .ref 0), (2, .ref 19), (3, .ref 38)], [], (W9 N C E F P Q T G U H B O J V Y Z O9), k, n)) (g := True ∧ True ∧ True) (by with_unfolding_all rfl) ⟨trivial, trivial, trivial⟩ ?_
      refine am_ev_drop [1, 2, 3, 4, 0] rfl rfl ?_
      exact ih h
