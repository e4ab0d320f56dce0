def lp_f_law_23 (sl : Nat) (xs : Nat → Int32) (fl : Nat) : Nat → cN → cC → cE → cF → cP → cT → cG → cU → cH → cB → cV → cO9 → Nat → Nat → Int32 → Option (Bool × cN × cE × cF × cT × cU × cV × cO9 × (Nat × Nat))
  | 0, _, _, _, _, _, _, _, _, _, _, _, _, _, _, _ => none
  | w + 1, N, C, E, F, P, T, G, U, H, B, V, O9, k, n, v4 =>
    if ((Int32.ofNat sl) - (4 : Int32)) < v4 then
    (some (true, N, E, F, T, U, V, O9, (k, n)))
    else
    if (v4 < 0 ∨ sl ≤ (v4).toNatClampNeg) then none else
    if ((xs (v4).toNatClampNeg) &&& (15 : Int32)) = (0 : Int32) then
    (if ((v4 + (1 : Int32)) < 0 ∨ sl ≤ ((v4 + (1 : Int32))).toNatClampNeg) then none else
    if ((v4 + (2 : Int32)) < 0 ∨ sl ≤ ((v4 + (2 : Int32))).toNatClampNeg) then none else
    if ((v4 + (3 : Int32)) < 0 ∨ sl ≤ ((v4 + (3 : Int32))).toNatClampNeg) then none else
    (fJ_make N C (xs ((v4 + (1 : Int32))).toNatClampNeg) (xs ((v4 + (2 : Int32))).toNatClampNeg) (xs ((v4 + (3 : Int32))).toNatClampNeg)).bind fun z7 =>
    match z7 with
    | (r7, N_7) =>
    if ((v4 + (1 : Int32)) < 0 ∨ sl ≤ ((v4 + (1 : Int32))).toNatClampNeg) then none else
    if ((v4 + (2 : Int32)) < 0 ∨ sl ≤ ((v4 + (2 : Int32))).toNatClampNeg) then none else
    if ((v4 + (3 : Int32)) < 0 ∨ sl ≤ ((v4 + (3 : Int32))).toNatClampNeg) then none else
    (fm_make T G U (xs ((v4 + (1 : Int32))).toNatClampNeg) (xs ((v4 + (2 : Int32))).toNatClampNeg) (xs ((v4 + (3 : Int32))).toNatClampNeg)).bind fun z11 =>
    match z11 with
    | (r11, T_11, U_11) =>
    if r7 = r11 then
    (lp_f_law_23 sl xs fl w N_7 C E F P T_11 G U_11 H B V O9 k n (v4 + (4 : Int32)))
    else
    some (false, N_7, E, F, T_11, U_11, V, O9, (k, n)))
    else
    if ((xs (v4).toNatClampNeg) &&& (15 : Int32)) = (1 : Int32) then
    ((fJ_terms N).bind fun z14 =>
    match z14 with
    | (r14) =>
    (fm_terms T U).bind fun z15 =>
    match z15 with
    | (r15, U_15) =>
    if r14 = r15 then
    (lp_f_law_23 sl xs fl w N C E F P T G U_15 H B V O9 k n (v4 + (4 : Int32)))
    else
    some (false, N, E, F, T, U_15, V, O9, (k, n)))
    else
    if ((xs (v4).toNatClampNeg) &&& (15 : Int32)) = (2 : Int32) then
    (if ((v4 + (1 : Int32)) < 0 ∨ sl ≤ ((v4 + (1 : Int32))).toNatClampNeg) then none else
    if ((v4 + (2 : Int32)) < 0 ∨ sl ≤ ((v4 + (2 : Int32))).toNatClampNeg) then none else
    (fJ_term N (xs ((v4 + (1 : Int32))).toNatClampNeg) (xs ((v4 + (2 : Int32))).toNatClampNeg)).bind fun z20 =>
    match z20 with
    | (r20) =>
    if ((v4 + (1 : Int32)) < 0 ∨ sl ≤ ((v4 + (1 : Int32))).toNatClampNeg) then none else
    if ((v4 + (2 : Int32)) < 0 ∨ sl ≤ ((v4 + (2 : Int32))).toNatClampNeg) then none else
    (fm_term T U (xs ((v4 + (1 : Int32))).toNatClampNeg) (xs ((v4 + (2 : Int32))).toNatClampNeg)).bind fun z23 =>
    match z23 with
    | (r23, U_23) =>
    if r20 = r23 then
    (lp_f_law_23 sl xs fl w N C E F P T G U_23 H B V O9 k n (v4 + (4 : Int32)))
    else
    some (false, N, E, F, T, U_23, V, O9, (k, n)))
    else
    if ((xs (v4).toNatClampNeg) &&& (15 : Int32)) = (3 : Int32) then
    (if ((v4 + (1 : Int32)) < 0 ∨ sl ≤ ((v4 + (1 : Int32))).toNatClampNeg) then none else
    if ((v4 + (2 : Int32)) < 0 ∨ sl ≤ ((v4 + (2 : Int32))).toNatClampNeg) then none else
    (fL_infer N E F O9 k n (xs ((v4 + (1 : Int32))).toNatClampNeg) (xs ((v4 + (2 : Int32))).toNatClampNeg)).bind fun z28 =>
    match z28 with
    | (r28, N_28, E_28, F_28, O9_28, (k_28, n_28)) =>
    if ((v4 + (1 : Int32)) < 0 ∨ sl ≤ ((v4 + (1 : Int32))).toNatClampNeg) then none else
    if ((v4 + (2 : Int32)) < 0 ∨ sl ≤ ((v4 + (2 : Int32))).toNatClampNeg) then none else
    (fm_infer T U V (xs ((v4 + (1 : Int32))).toNatClampNeg) (xs ((v4 + (2 : Int32))).toNatClampNeg)).bind fun z31 =>
    match z31 with
    | (r31, U_31, V_31) =>
    (fm_thrown U_31).bind fun z32 =>
    match z32 with
    | (r32) =>
    if r32 = r28 then
    (if r28 ≠ 0 then
    (lp_f_law_23 sl xs fl w N_28 C E_28 F_28 P T G U_31 H B V_31 O9_28 k_28 n_28 (v4 + (4 : Int32)))
    else
    none)
    else
    some (false, N_28, E_28, F_28, T, U_31, V_31, O9_28, (k_28, n_28)))
    else
    if ((xs (v4).toNatClampNeg) &&& (15 : Int32)) = (4 : Int32) then
    (if ((v4 + (1 : Int32)) < 0 ∨ sl ≤ ((v4 + (1 : Int32))).toNatClampNeg) then none else
    if ((v4 + (2 : Int32)) < 0 ∨ sl ≤ ((v4 + (2 : Int32))).toNatClampNeg) then none else
    (fL_reduce N E F O9 k n (xs ((v4 + (1 : Int32))).toNatClampNeg) (xs ((v4 + (2 : Int32))).toNatClampNeg)).bind fun z38 =>
    match z38 with
    | (r38, N_38, E_38, F_38, O9_38, (k_38, n_38)) =>
    if ((v4 + (1 : Int32)) < 0 ∨ sl ≤ ((v4 + (1 : Int32))).toNatClampNeg) then none else
    if ((v4 + (2 : Int32)) < 0 ∨ sl ≤ ((v4 + (2 : Int32))).toNatClampNeg) then none else
    (fm_reduce T U V (xs ((v4 + (1 : Int32))).toNatClampNeg) (xs ((v4 + (2 : Int32))).toNatClampNeg)).bind fun z41 =>
    match z41 with
    | (r41, U_41, V_41) =>
    (fm_thrown U_41).bind fun z42 =>
    match z42 with
    | (r42) =>
    if r42 = r38 then
    (if r38 ≠ 0 then
    (lp_f_law_23 sl xs fl w N_38 C E_38 F_38 P T G U_41 H B V_41 O9_38 k_38 n_38 (v4 + (4 : Int32)))
    else
    none)
    else
    some (false, N_38, E_38, F_38, T, U_41, V_41, O9_38, (k_38, n_38)))
    else
    if ((xs (v4).toNatClampNeg) &&& (15 : Int32)) = (5 : Int32) then
    (if ((v4 + (1 : Int32)) < 0 ∨ sl ≤ ((v4 + (1 : Int32))).toNatClampNeg) then none else
    if ((v4 + (2 : Int32)) < 0 ∨ sl ≤ ((v4 + (2 : Int32))).toNatClampNeg) then none else
    if ((v4 + (3 : Int32)) < 0 ∨ sl ≤ ((v4 + (3 : Int32))).toNatClampNeg) then none else
    (fL_same N E F O9 k n (xs ((v4 + (1 : Int32))).toNatClampNeg) (xs ((v4 + (2 : Int32))).toNatClampNeg) (xs ((v4 + (3 : Int32))).toNatClampNeg)).bind fun z49 =>
    match z49 with
    | (r49, N_49, E_49, F_49, O9_49, (k_49, n_49)) =>
    if ((v4 + (1 : Int32)) < 0 ∨ sl ≤ ((v4 + (1 : Int32))).toNatClampNeg) then none else
    if ((v4 + (2 : Int32)) < 0 ∨ sl ≤ ((v4 + (2 : Int32))).toNatClampNeg) then none else
    if ((v4 + (3 : Int32)) < 0 ∨ sl ≤ ((v4 + (3 : Int32))).toNatClampNeg) then none else
    (fm_same T U V (xs ((v4 + (1 : Int32))).toNatClampNeg) (xs ((v4 + (2 : Int32))).toNatClampNeg) (xs ((v4 + (3 : Int32))).toNatClampNeg)).bind fun z53 =>
    match z53 with
    | (r53, U_53, V_53) =>
    (fm_thrown U_53).bind fun z54 =>
    match z54 with
    | (r54) =>
    if r54 = r49 then
    (if r49 ≠ 0 then
    (lp_f_law_23 sl xs fl w N_49 C E_49 F_49 P T G U_53 H B V_53 O9_49 k_49 n_49 (v4 + (4 : Int32)))
    else
    none)
    else
    some (false, N_49, E_49, F_49, T, U_53, V_53, O9_49, (k_49, n_49)))
    else
    if ((xs (v4).toNatClampNeg) &&& (15 : Int32)) = (6 : Int32) then
    (if ((v4 + (1 : Int32)) < 0 ∨ sl ≤ ((v4 + (1 : Int32))).toNatClampNeg) then none else
    if ((v4 + (2 : Int32)) < 0 ∨ sl ≤ ((v4 + (2 : Int32))).toNatClampNeg) then none else
    if ((v4 + (3 : Int32)) < 0 ∨ sl ≤ ((v4 + (3 : Int32))).toNatClampNeg) then none else
    (fL_check N E F O9 k n (xs ((v4 + (1 : Int32))).toNatClampNeg) (xs ((v4 + (2 : Int32))).toNatClampNeg) (xs ((v4 + (3 : Int32))).toNatClampNeg)).bind fun z61 =>
    match z61 with
    | (r61, N_61, E_61, F_61, O9_61, (k_61, n_61)) =>
    if ((v4 + (1 : Int32)) < 0 ∨ sl ≤ ((v4 + (1 : Int32))).toNatClampNeg) then none else
    if ((v4 + (2 : Int32)) < 0 ∨ sl ≤ ((v4 + (2 : Int32))).toNatClampNeg) then none else
    if ((v4 + (3 : Int32)) < 0 ∨ sl ≤ ((v4 + (3 : Int32))).toNatClampNeg) then none else
    (fm_check T U V (xs ((v4 + (1 : Int32))).toNatClampNeg) (xs ((v4 + (2 : Int32))).toNatClampNeg) (xs ((v4 + (3 : Int32))).toNatClampNeg)).bind fun z65 =>
    match z65 with
    | (r65, U_65, V_65) =>
    (fm_thrown U_65).bind fun z66 =>
    match z66 with
    | (r66) =>
    if r66 = r61 then
    (if r61 ≠ 0 then
    (lp_f_law_23 sl xs fl w N_61 C E_61 F_61 P T G U_65 H B V_65 O9_61 k_61 n_61 (v4 + (4 : Int32)))
    else
    none)
    else
    some (false, N_61, E_61, F_61, T, U_65, V_65, O9_61, (k_61, n_61)))
    else
    if ((xs (v4).toNatClampNeg) &&& (15 : Int32)) = (7 : Int32) then
    (if ((v4 + (1 : Int32)) < 0 ∨ sl ≤ ((v4 + (1 : Int32))).toNatClampNeg) then none else
    if ((v4 + (2 : Int32)) < 0 ∨ sl ≤ ((v4 + (2 : Int32))).toNatClampNeg) then none else
    (fL_declare N C E F O9 k n (xs ((v4 + (1 : Int32))).toNatClampNeg) (xs ((v4 + (2 : Int32))).toNatClampNeg)).bind fun z72 =>
    match z72 with
    | (r72, N_72, E_72, F_72, O9_72, (k_72, n_72)) =>
    if ((v4 + (1 : Int32)) < 0 ∨ sl ≤ ((v4 + (1 : Int32))).toNatClampNeg) then none else
    if ((v4 + (2 : Int32)) < 0 ∨ sl ≤ ((v4 + (2 : Int32))).toNatClampNeg) then none else
    (fm_declare T G U V (xs ((v4 + (1 : Int32))).toNatClampNeg) (xs ((v4 + (2 : Int32))).toNatClampNeg)).bind fun z75 =>
    match z75 with
    | (r75, U_75, V_75) =>
    (fm_thrown U_75).bind fun z76 =>
    match z76 with
    | (r76) =>
    if r76 = r72 then
    (if r72 ≠ 0 then
    (lp_f_law_23 sl xs fl w N_72 C E_72 F_72 P T G U_75 H B V_75 O9_72 k_72 n_72 (v4 + (4 : Int32)))
    else
    none)
    else
    some (false, N_72, E_72, F_72, T, U_75, V_75, O9_72, (k_72, n_72)))
    else
    if ((xs (v4).toNatClampNeg) &&& (15 : Int32)) = (8 : Int32) then
    (if ((v4 + (1 : Int32)) < 0 ∨ sl ≤ ((v4 + (1 : Int32))).toNatClampNeg) then none else
    if ((v4 + (2 : Int32)) < 0 ∨ sl ≤ ((v4 + (2 : Int32))).toNatClampNeg) then none else
    (fL_define N C E F O9 k n (xs ((v4 + (1 : Int32))).toNatClampNeg) (xs ((v4 + (2 : Int32))).toNatClampNeg)).bind fun z82 =>
    match z82 with
    | (r82, N_82, E_82, F_82, O9_82, (k_82, n_82)) =>
    if ((v4 + (1 : Int32)) < 0 ∨ sl ≤ ((v4 + (1 : Int32))).toNatClampNeg) then none else
    if ((v4 + (2 : Int32)) < 0 ∨ sl ≤ ((v4 + (2 : Int32))).toNatClampNeg) then none else
    (fm_define fl T G U V (xs ((v4 + (1 : Int32))).toNatClampNeg) (xs ((v4 + (2 : Int32))).toNatClampNeg)).bind fun z85 =>
    match z85 with
    | (r85, U_85, V_85) =>
    (fm_thrown U_85).bind fun z86 =>
    match z86 with
    | (r86) =>
    if r86 = r82 then
    (if r82 ≠ 0 then
    (lp_f_law_23 sl xs fl w N_82 C E_82 F_82 P T G U_85 H B V_85 O9_82 k_82 n_82 (v4 + (4 : Int32)))
    else
    none)
    else
    some (false, N_82, E_82, F_82, T, U_85, V_85, O9_82, (k_82, n_82)))
    else
    if ((xs (v4).toNatClampNeg) &&& (15 : Int32)) = (9 : Int32) then
    ((fJ_constants C).bind fun z90 =>
    match z90 with
    | (r90) =>
    (fm_constants G U).bind fun z91 =>
    match z91 with
    | (r91, U_91) =>
    if r90 = r91 then
    (lp_f_law_23 sl xs fl w N C E F P T G U_91 H B V O9 k n (v4 + (4 : Int32)))
    else
    some (false, N, E, F, T, U_91, V, O9, (k, n)))
    else
    if ((xs (v4).toNatClampNeg) &&& (15 : Int32)) = (10 : Int32) then
    (if ((v4 + (1 : Int32)) < 0 ∨ sl ≤ ((v4 + (1 : Int32))).toNatClampNeg) then none else
    (fJ_hasBody C (xs ((v4 + (1 : Int32))).toNatClampNeg)).bind fun z95 =>
    match z95 with
    | (r95) =>
    if ((v4 + (1 : Int32)) < 0 ∨ sl ≤ ((v4 + (1 : Int32))).toNatClampNeg) then none else
    (fm_hasBody G U (xs ((v4 + (1 : Int32))).toNatClampNeg)).bind fun z97 =>
    match z97 with
    | (r97, U_97) =>
    if (am_bz r95) = (am_bz r97) then
    (lp_f_law_23 sl xs fl w N C E F P T G U_97 H B V O9 k n (v4 + (4 : Int32)))
    else
    some (false, N, E, F, T, U_97, V, O9, (k, n)))
    else
    if ((xs (v4).toNatClampNeg) &&& (15 : Int32)) = (11 : Int32) then
    (if ((v4 + (1 : Int32)) < 0 ∨ sl ≤ ((v4 + (1 : Int32))).toNatClampNeg) then none else
    (fJ_typeOf C (xs ((v4 + (1 : Int32))).toNatClampNeg)).bind fun z101 =>
    match z101 with
    | (r101) =>
    if ((v4 + (1 : Int32)) < 0 ∨ sl ≤ ((v4 + (1 : Int32))).toNatClampNeg) then none else
    (fm_typeOf G U (xs ((v4 + (1 : Int32))).toNatClampNeg)).bind fun z103 =>
    match z103 with
    | (r103, U_103) =>
    if r101 = r103 then
    (lp_f_law_23 sl xs fl w N C E F P T G U_103 H B V O9 k n (v4 + (4 : Int32)))
    else
    some (false, N, E, F, T, U_103, V, O9, (k, n)))
    else
    if ((xs (v4).toNatClampNeg) &&& (15 : Int32)) = (12 : Int32) then
    (if ((v4 + (1 : Int32)) < 0 ∨ sl ≤ ((v4 + (1 : Int32))).toNatClampNeg) then none else
    (fJ_mark P (xs ((v4 + (1 : Int32))).toNatClampNeg)).bind fun z107 =>
    match z107 with
    | (r107) =>
    if ((v4 + (1 : Int32)) < 0 ∨ sl ≤ ((v4 + (1 : Int32))).toNatClampNeg) then none else
    (fm_mark U H B (xs ((v4 + (1 : Int32))).toNatClampNeg)).bind fun z109 =>
    match z109 with
    | (r109, U_109) =>
    if r107 = r109 then
    (lp_f_law_23 sl xs fl w N C E F P T G U_109 H B V O9 k n (v4 + (4 : Int32)))
    else
    some (false, N, E, F, T, U_109, V, O9, (k, n)))
    else
    if ((xs (v4).toNatClampNeg) &&& (15 : Int32)) = (13 : Int32) then
    ((fJ_keep P).bind fun z112 =>
    match z112 with
    | (r112) =>
    (fm_keep fl T U H B).bind fun z113 =>
    match z113 with
    | (r113, U_113) =>
    if r112 = r113 then
    (lp_f_law_23 sl xs fl w N C E F P T G U_113 H B V O9 k n (v4 + (4 : Int32)))
    else
    some (false, N, E, F, T, U_113, V, O9, (k, n)))
    else
    if ((xs (v4).toNatClampNeg) &&& (15 : Int32)) = (14 : Int32) then
    ((fJ_reduced E).bind fun z116 =>
    match z116 with
    | (r116) =>
    (fm_reduced U V).bind fun z117 =>
    match z117 with
    | (r117, U_117) =>
    if r116 = r117 then
    (lp_f_law_23 sl xs fl w N C E F P T G U_117 H B V O9 k n (v4 + (4 : Int32)))
    else
    some (false, N, E, F, T, U_117, V, O9, (k, n)))
    else
    lp_f_law_23 sl xs fl w N C E F P T G U H B V O9 k n (v4 + (4 : Int32))
set_option maxHeartbeats 4000000 in
set_option maxRecDepth 100000 in
theorem ok_lp_f_law_23 {sl : Nat} {xs : Nat → Int32} {fl : Nat} : ∀ {w : Nat} {N : cN} {C : cC} {E : cE} {F : cF} {P : cP} {Q : cQ} {T : cT} {G : cG} {U : cU} {H : cH} {B : cB} {O : cO} {J : cJ} {V : cV} {Y : cY} {Z : cZ} {O9 : cO9} {k n : Nat} {v4 : Int32} {rv : Bool} {N' : cN} {E' : cE} {F' : cF} {T' : cT} {U' : cU} {V' : cV} {O9' : cO9} {k' n' : Nat} (h : lp_f_law_23 sl xs fl w N C E F P T G U H B V O9 k n v4 = some (rv, N', E', F', T', U', V', O9', (k', n'))) (D : Nat) (hD : 4 ≤ D), am_Ev D 132 (sl + 1) xs (23, [(0, .retAddr 0), (1, .ref 0), (2, .ref 19), (3, .ref 38), (4, .int v4)], [], (W9 N C E F P Q T G U H B O J V Y Z O9), k, n) (.inl (some (.int (am_bz rv))), W9 N' C E' F' P Q T' G U' H B O J V' Y Z O9', k', n') := by
  intro w
  induction w with
  | zero => intros; rename_i h _ _; cases h
  | succ w ih0 =>
    intro N C E F P Q T G U H B O J V Y Z O9 k n v4 rv N' E' F' T' U' V' O9' k' n' h D hD
    have ih := fun {N} {C} {E} {F} {P} {Q} {T} {G} {U} {H} {B} {O} {J} {V} {Y} {Z} {O9} {k} {n} {v4} {rv} {N'} {E'} {F'} {T'} {U'} {V'} {O9'} {k'} {n'} h => @ih0 N C E F P Q T G U H B O J V Y Z O9 k n v4 rv N' E' F' T' U' V' O9' k' n' h D hD
    unfold lp_f_law_23 at h
    refine am_ev_st 6 (f' := am_br (((Int32.ofNat sl) - (4 : Int32)) < v4) 777 29 [(0, .retAddr 0), (1, .ref 0), (2, .ref 19), (3, .ref 38), (4, .int v4)] [] (W9 N C E F P Q T G U H B O J V Y Z O9) k n) (g := True ∧ True ∧ 0 < sl + 1 ∧ True ∧ True ∧ True ∧ True) (by with_unfolding_all rfl) ⟨trivial, trivial, Nat.succ_pos _, trivial, trivial, trivial, trivial⟩ ?_
    by_cases c1 : ((Int32.ofNat sl) - (4 : Int32)) < v4
    · rw [if_pos c1] at h
      refine am_ev_pos c1 ?_
      refine am_ev_st 1 (f' := (778, [(0, .retAddr 0), (1, .ref 0), (2, .ref 19), (3, .ref 38), (4, .int v4)], [.int (1 : Int32)], (W9 N C E F P Q T G U H B O J V Y Z O9), k, n)) (g := True ∧ True) (by with_unfolding_all rfl) ⟨trivial, trivial⟩ ?_
      cases h
      exact am_ev_ret 0 0 0 rfl .boolean rfl am_n1 rfl
    · rw [if_neg c1] at h
      refine am_ev_neg c1 ?_
      by_cases g2 : (v4 < 0 ∨ sl ≤ (v4).toNatClampNeg)
      · rw [if_pos g2] at h; cases h
      rw [if_neg g2] at h
      refine am_ev_st 6 (f' := ((am_tg [(0, 112), (1, 161), (2, 174), (3, 211), (4, 279), (5, 347), (6, 434), (7, 521), (8, 589), (9, 657), (10, 670), (11, 695), (12, 720), (13, 745), (14, 758)] 771 ((xs (v4).toNatClampNeg) &&& (15 : Int32))), [(0, .retAddr 0), (1, .ref 0), (2, .ref 19), (3, .ref 38), (4, .int v4)], [], (W9 N C E F P Q T G U H B O J V Y Z O9), k, n)) (g := True ∧ True ∧ (0 < sl + 1 ∧ vp_in (v4) sl) ∧ True ∧ True ∧ True ∧ True) (by with_unfolding_all rfl) ⟨trivial, trivial, ⟨Nat.succ_pos _, g2⟩, trivial, trivial, trivial, trivial⟩ ?_
      by_cases c3 : ((xs (v4).toNatClampNeg) &&& (15 : Int32)) = (0 : Int32)
      · rw [if_pos c3] at h
        refine am_ev_sweq c3 ?_
        by_cases g4 : ((v4 + (1 : Int32)) < 0 ∨ sl ≤ ((v4 + (1 : Int32))).toNatClampNeg)
        · rw [if_pos g4] at h; cases h
        rw [if_neg g4] at h
        by_cases g5 : ((v4 + (2 : Int32)) < 0 ∨ sl ≤ ((v4 + (2 : Int32))).toNatClampNeg)
        · rw [if_pos g5] at h; cases h
        rw [if_neg g5] at h
        by_cases g6 : ((v4 + (3 : Int32)) < 0 ∨ sl ≤ ((v4 + (3 : Int32))).toNatClampNeg)
        · rw [if_pos g6] at h; cases h
        rw [if_neg g6] at h
        refine am_ev_st 16 (f' := (131, [(0, .retAddr 0), (1, .ref 0), (2, .ref 19), (3, .ref 38), (4, .int v4)], [.int (xs ((v4 + (3 : Int32))).toNatClampNeg), .int (xs ((v4 + (2 : Int32))).toNatClampNeg), .int (xs ((v4 + (1 : Int32))).toNatClampNeg), .ref 0], (W9 N C E F P Q T G U H B O J V Y Z O9), k, n)) (g := True ∧ True ∧ True ∧ True ∧ True ∧ (0 < sl + 1 ∧ vp_in ((v4 + (1 : Int32))) sl) ∧ True ∧ True ∧ True ∧ True ∧ (0 < sl + 1 ∧ vp_in ((v4 + (2 : Int32))) sl) ∧ True ∧ True ∧ True ∧ True ∧ (0 < sl + 1 ∧ vp_in ((v4 + (3 : Int32))) sl) ∧ True) (by with_unfolding_all rfl) ⟨trivial, trivial, trivial, trivial, trivial, ⟨Nat.succ_pos _, g4⟩, trivial, trivial, trivial, trivial, ⟨Nat.succ_pos _, g5⟩, trivial, trivial, trivial, trivial, ⟨Nat.succ_pos _, g6⟩, trivial⟩ ?_
        replace h := Option.bind_eq_some_iff.mp h
        obtain ⟨⟨r7, N_7⟩, hc7, h⟩ := h
        try dsimp only at h
        refine am_ev_call (.invokevirtual 39) 56 6 208 [.ref 0, .int (xs ((v4 + (1 : Int32))).toNatClampNeg), .int (xs ((v4 + (2 : Int32))).toNatClampNeg), .int (xs ((v4 + (3 : Int32))).toNatClampNeg)] [] rfl rfl rfl rfl (ok_fJ_make hc7 D (by omega)) rfl ?_
        by_cases g8 : ((v4 + (1 : Int32)) < 0 ∨ sl ≤ ((v4 + (1 : Int32))).toNatClampNeg)
        · rw [if_pos g8] at h; cases h
        rw [if_neg g8] at h
        by_cases g9 : ((v4 + (2 : Int32)) < 0 ∨ sl ≤ ((v4 + (2 : Int32))).toNatClampNeg)
        · rw [if_pos g9] at h; cases h
        rw [if_neg g9] at h
        by_cases g10 : ((v4 + (3 : Int32)) < 0 ∨ sl ≤ ((v4 + (3 : Int32))).toNatClampNeg)
        · rw [if_pos g10] at h; cases h
        rw [if_neg g10] at h
        refine am_ev_st 16 (f' := (153, [(0, .retAddr 0), (1, .ref 0), (2, .ref 19), (3, .ref 38), (4, .int v4)], [.int (xs ((v4 + (3 : Int32))).toNatClampNeg), .int (xs ((v4 + (2 : Int32))).toNatClampNeg), .int (xs ((v4 + (1 : Int32))).toNatClampNeg), .ref 19, .int r7], (W9 N_7 C E F P Q T G U H B O J V Y Z O9), k, n)) (g := True ∧ True ∧ True ∧ True ∧ True ∧ (0 < sl + 1 ∧ vp_in ((v4 + (1 : Int32))) sl) ∧ True ∧ True ∧ True ∧ True ∧ (0 < sl + 1 ∧ vp_in ((v4 + (2 : Int32))) sl) ∧ True ∧ True ∧ True ∧ True ∧ (0 < sl + 1 ∧ vp_in ((v4 + (3 : Int32))) sl) ∧ True) (by with_unfolding_all rfl) ⟨trivial, trivial, trivial, trivial, trivial, ⟨Nat.succ_pos _, g8⟩, trivial, trivial, trivial, trivial, ⟨Nat.succ_pos _, g9⟩, trivial, trivial, trivial, trivial, ⟨Nat.succ_pos _, g10⟩, trivial⟩ ?_
        replace h := Option.bind_eq_some_iff.mp h
        obtain ⟨⟨r11, T_11, U_11⟩, hc11, h⟩ := h
        try dsimp only at h
        refine am_ev_call (.invokevirtual 43) 106 6 784 [.ref 19, .int (xs ((v4 + (1 : Int32))).toNatClampNeg), .int (xs ((v4 + (2 : Int32))).toNatClampNeg), .int (xs ((v4 + (3 : Int32))).toNatClampNeg)] [.int r7] rfl rfl rfl rfl (ok_fm_make hc11 D (by omega)) rfl ?_
        refine am_ev_st 1 (f' := am_br (r7 = r11) 771 156 [(0, .retAddr 0), (1, .ref 0), (2, .ref 19), (3, .ref 38), (4, .int v4)] [] (W9 N_7 C E F P Q T_11 G U_11 H B O J V Y Z O9) k n) (g := True ∧ True) (by with_unfolding_all rfl) ⟨trivial, trivial⟩ ?_
        by_cases c12 : r7 = r11
        · rw [if_pos c12] at h
          refine am_ev_pos c12 ?_
          refine am_ev_st 2 (f' := (23, [(4, .int (v4 + (4 : Int32))), (0, .retAddr 0), (1, .ref 0), (2, .ref 19), (3, .ref 38)], [], (W9 N_7 C E F P Q T_11 G U_11 H B O J V Y Z O9), k, n)) (g := True ∧ True ∧ True) (by with_unfolding_all rfl) ⟨trivial, trivial, trivial⟩ ?_
          refine am_ev_drop [1, 2, 3, 4, 0] rfl rfl ?_
          exact ih h
        · rw [if_neg c12] at h
          refine am_ev_neg c12 ?_
          refine am_ev_st 1 (f' := (160, [(0, .retAddr 0), (1, .ref 0), (2, .ref 19), (3, .ref 38), (4, .int v4)], [.int (0 : Int32)], (W9 N_7 C E F P Q T_11 G U_11 H B O J V Y Z O9), k, n)) (g := True ∧ True) (by with_unfolding_all rfl) ⟨trivial, trivial⟩ ?_
          cases h
          exact am_ev_ret 0 0 0 rfl .boolean rfl am_n0 rfl
      rw [if_neg c3] at h
      refine am_ev_swne c3 ?_
      by_cases c13 : ((xs (v4).toNatClampNeg) &&& (15 : Int32)) = (1 : Int32)
      · rw [if_pos c13] at h
        refine am_ev_sweq c13 ?_
        refine am_ev_st 1 (f' := (162, [(0, .retAddr 0), (1, .ref 0), (2, .ref 19), (3, .ref 38), (4, .int v4)], [.ref 0], (W9 N C E F P Q T G U H B O J V Y Z O9), k, n)) (g := True ∧ True) (by with_unfolding_all rfl) ⟨trivial, trivial⟩ ?_
        replace h := Option.bind_eq_some_iff.mp h
        obtain ⟨r14, hc14, h⟩ := h
        try dsimp only at h
        refine am_ev_call (.invokevirtual 44) 57 0 250 [.ref 0] [] rfl rfl rfl rfl (ok_fJ_terms hc14 D (by omega)) rfl ?_
        refine am_ev_st 1 (f' := (166, [(0, .retAddr 0), (1, .ref 0), (2, .ref 19), (3, .ref 38), (4, .int v4)], [.ref 19, .int r14], (W9 N C E F P Q T G U H B O J V Y Z O9), k, n)) (g := True ∧ True) (by with_unfolding_all rfl) ⟨trivial, trivial⟩ ?_
        replace h := Option.bind_eq_some_iff.mp h
        obtain ⟨⟨r15, U_15⟩, hc15, h⟩ := h
        try dsimp only at h
        refine am_ev_call (.invokevirtual 48) 107 0 788 [.ref 19] [.int r14] rfl rfl rfl rfl (ok_fm_terms hc15 D (by omega)) rfl ?_
        refine am_ev_st 1 (f' := am_br (r14 = r15) 771 169 [(0, .retAddr 0), (1, .ref 0), (2, .ref 19), (3, .ref 38), (4, .int v4)] [] (W9 N C E F P Q T G U_15 H B O J V Y Z O9) k n) (g := True ∧ True) (by with_unfolding_all rfl) ⟨trivial, trivial⟩ ?_
        by_cases c16 : r14 = r15
        · rw [if_pos c16] at h
          refine am_ev_pos c16 ?_
          refine am_ev_st 2 (f' := (23, [(4, .int (v4 + (4 : Int32))), (0, .retAddr 0), (1, .ref 0), (2, .ref 19), (3, .ref 38)], [], (W9 N C E F P Q T G U_15 H B O J V Y Z O9), k, n)) (g := True ∧ True ∧ True) (by with_unfolding_all rfl) ⟨trivial, trivial, trivial⟩ ?_
          refine am_ev_drop [1, 2, 3, 4, 0] rfl rfl ?_
          exact ih h
        · rw [if_neg c16] at h
          refine am_ev_neg c16 ?_
          refine am_ev_st 1 (f' := (173, [(0, .retAddr 0), (1, .ref 0), (2, .ref 19), (3, .ref 38), (4, .int v4)], [.int (0 : Int32)], (W9 N C E F P Q T G U_15 H B O J V Y Z O9), k, n)) (g := True ∧ True) (by with_unfolding_all rfl) ⟨trivial, trivial⟩ ?_
          cases h
          exact am_ev_ret 0 0 0 rfl .boolean rfl am_n0 rfl
      rw [if_neg c13] at h
      refine am_ev_swne c13 ?_
      by_cases c17 : ((xs (v4).toNatClampNeg) &&& (15 : Int32)) = (2 : Int32)
      · rw [if_pos c17] at h
        refine am_ev_sweq c17 ?_
        by_cases g18 : ((v4 + (1 : Int32)) < 0 ∨ sl ≤ ((v4 + (1 : Int32))).toNatClampNeg)
        · rw [if_pos g18] at h; cases h
        rw [if_neg g18] at h
        by_cases g19 : ((v4 + (2 : Int32)) < 0 ∨ sl ≤ ((v4 + (2 : Int32))).toNatClampNeg)
        · rw [if_pos g19] at h; cases h
        rw [if_neg g19] at h
        refine am_ev_st 11 (f' := (187, [(0, .retAddr 0), (1, .ref 0), (2, .ref 19), (3, .ref 38), (4, .int v4)], [.int (xs ((v4 + (2 : Int32))).toNatClampNeg), .int (xs ((v4 + (1 : Int32))).toNatClampNeg), .ref 0], (W9 N C E F P Q T G U H B O J V Y Z O9), k, n)) (g := True ∧ True ∧ True ∧ True ∧ True ∧ (0 < sl + 1 ∧ vp_in ((v4 + (1 : Int32))) sl) ∧ True ∧ True ∧ True ∧ True ∧ (0 < sl + 1 ∧ vp_in ((v4 + (2 : Int32))) sl) ∧ True) (by with_unfolding_all rfl) ⟨trivial, trivial, trivial, trivial, trivial, ⟨Nat.succ_pos _, g18⟩, trivial, trivial, trivial, trivial, ⟨Nat.succ_pos _, g19⟩, trivial⟩ ?_
        replace h := Option.bind_eq_some_iff.mp h
        obtain ⟨r20, hc20, h⟩ := h
        try dsimp only at h
        refine am_ev_call (.invokevirtual 49) 58 4 258 [.ref 0, .int (xs ((v4 + (1 : Int32))).toNatClampNeg), .int (xs ((v4 + (2 : Int32))).toNatClampNeg)] [] rfl rfl rfl rfl (ok_fJ_term hc20 D (by omega)) rfl ?_
        by_cases g21 : ((v4 + (1 : Int32)) < 0 ∨ sl ≤ ((v4 + (1 : Int32))).toNatClampNeg)
        · rw [if_pos g21] at h; cases h
        rw [if_neg g21] at h
        by_cases g22 : ((v4 + (2 : Int32)) < 0 ∨ sl ≤ ((v4 + (2 : Int32))).toNatClampNeg)
        · rw [if_pos g22] at h; cases h
        rw [if_neg g22] at h
        refine am_ev_st 11 (f' := (203, [(0, .retAddr 0), (1, .ref 0), (2, .ref 19), (3, .ref 38), (4, .int v4)], [.int (xs ((v4 + (2 : Int32))).toNatClampNeg), .int (xs ((v4 + (1 : Int32))).toNatClampNeg), .ref 19, .int r20], (W9 N C E F P Q T G U H B O J V Y Z O9), k, n)) (g := True ∧ True ∧ True ∧ True ∧ True ∧ (0 < sl + 1 ∧ vp_in ((v4 + (1 : Int32))) sl) ∧ True ∧ True ∧ True ∧ True ∧ (0 < sl + 1 ∧ vp_in ((v4 + (2 : Int32))) sl) ∧ True) (by with_unfolding_all rfl) ⟨trivial, trivial, trivial, trivial, trivial, ⟨Nat.succ_pos _, g21⟩, trivial, trivial, trivial, trivial, ⟨Nat.succ_pos _, g22⟩, trivial⟩ ?_
        replace h := Option.bind_eq_some_iff.mp h
        obtain ⟨⟨r23, U_23⟩, hc23, h⟩ := h
        try dsimp only at h
        refine am_ev_call (.invokevirtual 52) 109 4 792 [.ref 19, .int (xs ((v4 + (1 : Int32))).toNatClampNeg), .int (xs ((v4 + (2 : Int32))).toNatClampNeg)] [.int r20] rfl rfl rfl rfl (ok_fm_term hc23 D (by omega)) rfl ?_
        refine am_ev_st 1 (f' := am_br (r20 = r23) 771 206 [(0, .retAddr 0), (1, .ref 0), (2, .ref 19), (3, .ref 38), (4, .int v4)] [] (W9 N C E F P Q T G U_23 H B O J V Y Z O9) k n) (g := True ∧ True) (by with_unfolding_all rfl) ⟨trivial, trivial⟩ ?_
        by_cases c24 : r20 = r23
        · rw [if_pos c24] at h
          refine am_ev_pos c24 ?_
          refine am_ev_st 2 (f' := (23, [(4, .int (v4 + (4 : Int32))), (0, .retAddr 0), (1, .ref 0), (2, .ref 19), (3, .ref 38)], [], (W9 N C E F P Q T G U_23 H B O J V Y Z O9), k, n)) (g := True ∧ True ∧ True) (by with_unfolding_all rfl) ⟨trivial, trivial, trivial⟩ ?_
          refine am_ev_drop [1, 2, 3, 4, 0] rfl rfl ?_
          exact ih h
        · rw [if_neg c24] at h
          refine am_ev_neg c24 ?_
          refine am_ev_st 1 (f' := (210, [(0, .retAddr 0), (1, .ref 0), (2, .ref 19), (3, .ref 38), (4, .int v4)], [.int (0 : Int32)], (W9 N C E F P Q T G U_23 H B O J V Y Z O9), k, n)) (g := True ∧ True) (by with_unfolding_all rfl) ⟨trivial, trivial⟩ ?_
          cases h
          exact am_ev_ret 0 0 0 rfl .boolean rfl am_n0 rfl
      rw [if_neg c17] at h
      refine am_ev_swne c17 ?_
      by_cases c25 : ((xs (v4).toNatClampNeg) &&& (15 : Int32)) = (3 : Int32)
      · rw [if_pos c25] at h
        refine am_ev_sweq c25 ?_
        by_cases g26 : ((v4 + (1 : Int32)) < 0 ∨ sl ≤ ((v4 + (1 : Int32))).toNatClampNeg)
        · rw [if_pos g26] at h; cases h
        rw [if_neg g26] at h
        by_cases g27 : ((v4 + (2 : Int32)) < 0 ∨ sl ≤ ((v4 + (2 : Int32))).toNatClampNeg)
        · rw [if_pos g27] at h; cases h
        rw [if_neg g27] at h
        refine am_ev_st 12 (f' := (225, [(0, .retAddr 0), (1, .ref 0), (2, .ref 19), (3, .ref 38), (4, .int v4)], [.ref 38, .int (xs ((v4 + (2 : Int32))).toNatClampNeg), .int (xs ((v4 + (1 : Int32))).toNatClampNeg), .ref 0], (W9 N C E F P Q T G U H B O J V Y Z O9), k, n)) (g := True ∧ True ∧ True ∧ True ∧ True ∧ (0 < sl + 1 ∧ vp_in ((v4 + (1 : Int32))) sl) ∧ True ∧ True ∧ True ∧ True ∧ (0 < sl + 1 ∧ vp_in ((v4 + (2 : Int32))) sl) ∧ True ∧ True) (by with_unfolding_all rfl) ⟨trivial, trivial, trivial, trivial, trivial, ⟨Nat.succ_pos _, g26⟩, trivial, trivial, trivial, trivial, ⟨Nat.succ_pos _, g27⟩, trivial, trivial⟩ ?_
        replace h := Option.bind_eq_some_iff.mp h
        obtain ⟨⟨r28, N_28, E_28, F_28, O9_28, ⟨k_28, n_28⟩⟩, hc28, h⟩ := h
        try dsimp only at h
        refine am_ev_call (.invokestatic 53) 126 8 455 [.ref 0, .int (xs ((v4 + (1 : Int32))).toNatClampNeg), .int (xs ((v4 + (2 : Int32))).toNatClampNeg), .ref 38] [] rfl rfl rfl rfl (ok_fL_infer hc28 D (by omega)) rfl ?_
        by_cases g29 : ((v4 + (1 : Int32)) < 0 ∨ sl ≤ ((v4 + (1 : Int32))).toNatClampNeg)
        · rw [if_pos g29] at h; cases h
        rw [if_neg g29] at h
        by_cases g30 : ((v4 + (2 : Int32)) < 0 ∨ sl ≤ ((v4 + (2 : Int32))).toNatClampNeg)
        · rw [if_pos g30] at h; cases h
        rw [if_neg g30] at h
        refine am_ev_st 12 (f' := (243, [(5, .int r28), (0, .retAddr 0), (1, .ref 0), (2, .ref 19), (3, .ref 38), (4, .int v4)], [.int (xs ((v4 + (2 : Int32))).toNatClampNeg), .int (xs ((v4 + (1 : Int32))).toNatClampNeg), .ref 19], (W9 N_28 C E_28 F_28 P Q T G U H B O J V Y Z O9_28), k_28, n_28)) (g := True ∧ True ∧ True ∧ True ∧ True ∧ True ∧ (0 < sl + 1 ∧ vp_in ((v4 + (1 : Int32))) sl) ∧ True ∧ True ∧ True ∧ True ∧ (0 < sl + 1 ∧ vp_in ((v4 + (2 : Int32))) sl) ∧ True) (by with_unfolding_all rfl) ⟨trivial, trivial, trivial, trivial, trivial, trivial, ⟨Nat.succ_pos _, g29⟩, trivial, trivial, trivial, trivial, ⟨Nat.succ_pos _, g30⟩, trivial⟩ ?_
        replace h := Option.bind_eq_some_iff.mp h
        obtain ⟨⟨r31, U_31, V_31⟩, hc31, h⟩ := h
        try dsimp only at h
        refine am_ev_call (.invokevirtual 58) 113 4 800 [.ref 19, .int (xs ((v4 + (1 : Int32))).toNatClampNeg), .int (xs ((v4 + (2 : Int32))).toNatClampNeg)] [] rfl rfl rfl rfl (ok_fm_infer hc31 D (by omega)) rfl ?_
        refine am_ev_st 2 (f' := (249, [(6, .int r31), (5, .int r28), (0, .retAddr 0), (1, .ref 0), (2, .ref 19), (3, .ref 38), (4, .int v4)], [.ref 19], (W9 N_28 C E_28 F_28 P Q T G U_31 H B O J V_31 Y Z O9_28), k_28, n_28)) (g := True ∧ True ∧ True) (by with_unfolding_all rfl) ⟨trivial, trivial, trivial⟩ ?_
        replace h := Option.bind_eq_some_iff.mp h
        obtain ⟨r32, hc32, h⟩ := h
        try dsimp only at h
        refine am_ev_call (.invokevirtual 59) 77 0 780 [.ref 19] [] rfl rfl rfl rfl (ok_fm_thrown hc32 D (by omega)) rfl ?_
        refine am_ev_st 2 (f' := am_br (r32 = r28) 259 254 [(6, .int r31), (5, .int r28), (0, .retAddr 0), (1, .ref 0), (2, .ref 19), (3, .ref 38), (4, .int v4)] [] (W9 N_28 C E_28 F_28 P Q T G U_31 H B O J V_31 Y Z O9_28) k_28 n_28) (g := True ∧ True ∧ True) (by with_unfolding_all rfl) ⟨trivial, trivial, trivial⟩ ?_
        by_cases c33 : r32 = r28
        · rw [if_pos c33] at h
          refine am_ev_pos c33 ?_
          refine am_ev_st 2 (f' := am_br (r28 ≠ 0) 276 261 [(6, .int r31), (5, .int r28), (0, .retAddr 0), (1, .ref 0), (2, .ref 19), (3, .ref 38), (4, .int v4)] [] (W9 N_28 C E_28 F_28 P Q T G U_31 H B O J V_31 Y Z O9_28) k_28 n_28) (g := True ∧ True ∧ True) (by with_unfolding_all rfl) ⟨trivial, trivial, trivial⟩ ?_
          by_cases c34 : r28 ≠ 0
          · rw [if_pos c34] at h
            refine am_ev_pos c34 ?_
            refine am_ev_st 3 (f' := (23, [(4, .int (v4 + (4 : Int32))), (6, .int r31), (5, .int r28), (0, .retAddr 0), (1, .ref 0), (2, .ref 19), (3, .ref 38)], [], (W9 N_28 C E_28 F_28 P Q T G U_31 H B O J V_31 Y Z O9_28), k_28, n_28)) (g := True ∧ True ∧ True ∧ True) (by with_unfolding_all rfl) ⟨trivial, trivial, trivial, trivial⟩ ?_
            refine am_ev_drop [3, 4, 5, 6, 0] rfl rfl ?_
            exact ih h
          · rw [if_neg c34] at h
            refine am_ev_neg c34 ?_
            cases h
        · rw [if_neg c33] at h
          refine am_ev_neg c33 ?_
          refine am_ev_st 1 (f' := (258, [(6, .int r31), (5, .int r28), (0, .retAddr 0), (1, .ref 0), (2, .ref 19), (3, .ref 38), (4, .int v4)], [.int (0 : Int32)], (W9 N_28 C E_28 F_28 P Q T G U_31 H B O J V_31 Y Z O9_28), k_28, n_28)) (g := True ∧ True) (by with_unfolding_all rfl) ⟨trivial, trivial⟩ ?_
          cases h
          exact am_ev_ret 0 0 0 rfl .boolean rfl am_n0 rfl
      rw [if_neg c25] at h
      refine am_ev_swne c25 ?_
      by_cases c35 : ((xs (v4).toNatClampNeg) &&& (15 : Int32)) = (4 : Int32)
      · rw [if_pos c35] at h
        refine am_ev_sweq c35 ?_
        by_cases g36 : ((v4 + (1 : Int32)) < 0 ∨ sl ≤ ((v4 + (1 : Int32))).toNatClampNeg)
        · rw [if_pos g36] at h; cases h
        rw [if_neg g36] at h
        by_cases g37 : ((v4 + (2 : Int32)) < 0 ∨ sl ≤ ((v4 + (2 : Int32))).toNatClampNeg)
        · rw [if_pos g37] at h; cases h
        rw [if_neg g37] at h
        refine am_ev_st 12 (f' := (293, [(0, .retAddr 0), (1, .ref 0), (2, .ref 19), (3, .ref 38), (4, .int v4)], [.ref 38, .int (xs ((v4 + (2 : Int32))).toNatClampNeg), .int (xs ((v4 + (1 : Int32))).toNatClampNeg), .ref 0], (W9 N C E F P Q T G U H B O J V Y Z O9), k, n)) (g := True ∧ True ∧ True ∧ True ∧ True ∧ (0 < sl + 1 ∧ vp_in ((v4 + (1 : Int32))) sl) ∧ True ∧ True ∧ True ∧ True ∧ (0 < sl + 1 ∧ vp_in ((v4 + (2 : Int32))) sl) ∧ True ∧ True) (by with_unfolding_all rfl) ⟨trivial, trivial, trivial, trivial, trivial, ⟨Nat.succ_pos _, g36⟩, trivial, trivial, trivial, trivial, ⟨Nat.succ_pos _, g37⟩, trivial, trivial⟩ ?_
        replace h := Option.bind_eq_some_iff.mp h
        obtain ⟨⟨r38, N_38, E_38, F_38, O9_38, ⟨k_38, n_38⟩⟩, hc38, h⟩ := h
        try dsimp only at h
        refine am_ev_call (.invokestatic 62) 127 8 618 [.ref 0, .int (xs ((v4 + (1 : Int32))).toNatClampNeg), .int (xs ((v4 + (2 : Int32))).toNatClampNeg), .ref 38] [] rfl rfl rfl rfl (ok_fL_reduce hc38 D (by omega)) rfl ?_
        by_cases g39 : ((v4 + (1 : Int32)) < 0 ∨ sl ≤ ((v4 + (1 : Int32))).toNatClampNeg)
        · rw [if_pos g39] at h; cases h
        rw [if_neg g39] at h
        by_cases g40 : ((v4 + (2 : Int32)) < 0 ∨ sl ≤ ((v4 + (2 : Int32))).toNatClampNeg)
        · rw [if_pos g40] at h; cases h
        rw [if_neg g40] at h
        refine am_ev_st 12 (f' := (311, [(5, .int r38), (0, .retAddr 0), (1, .ref 0), (2, .ref 19), (3, .ref 38), (4, .int v4)], [.int (xs ((v4 + (2 : Int32))).toNatClampNeg), .int (xs ((v4 + (1 : Int32))).toNatClampNeg), .ref 19], (W9 N_38 C E_38 F_38 P Q T G U H B O J V Y Z O9_38), k_38, n_38)) (g := True ∧ True ∧ True ∧ True ∧ True ∧ True ∧ (0 < sl + 1 ∧ vp_in ((v4 + (1 : Int32))) sl) ∧ True ∧ True ∧ True ∧ True ∧ (0 < sl + 1 ∧ vp_in ((v4 + (2 : Int32))) sl) ∧ True) (by with_unfolding_all rfl) ⟨trivial, trivial, trivial, trivial, trivial, trivial, ⟨Nat.succ_pos _, g39⟩, trivial, trivial, trivial, trivial, ⟨Nat.succ_pos _, g40⟩, trivial⟩ ?_
        replace h := Option.bind_eq_some_iff.mp h
        obtain ⟨⟨r41, U_41, V_41⟩, hc41, h⟩ := h
        try dsimp only at h
        refine am_ev_call (.invokevirtual 64) 114 4 925 [.ref 19, .int (xs ((v4 + (1 : Int32))).toNatClampNeg), .int (xs ((v4 + (2 : Int32))).toNatClampNeg)] [] rfl rfl rfl rfl (ok_fm_reduce hc41 D (by omega)) rfl ?_
        refine am_ev_st 2 (f' := (317, [(6, .int r41), (5, .int r38), (0, .retAddr 0), (1, .ref 0), (2, .ref 19), (3, .ref 38), (4, .int v4)], [.ref 19], (W9 N_38 C E_38 F_38 P Q T G U_41 H B O J V_41 Y Z O9_38), k_38, n_38)) (g := True ∧ True ∧ True) (by with_unfolding_all rfl) ⟨trivial, trivial, trivial⟩ ?_
        replace h := Option.bind_eq_some_iff.mp h
        obtain ⟨r42, hc42, h⟩ := h
        try dsimp only at h
        refine am_ev_call (.invokevirtual 59) 77 0 780 [.ref 19] [] rfl rfl rfl rfl (ok_fm_thrown hc42 D (by omega)) rfl ?_
        refine am_ev_st 2 (f' := am_br (r42 = r38) 327 322 [(6, .int r41), (5, .int r38), (0, .retAddr 0), (1, .ref 0), (2, .ref 19), (3, .ref 38), (4, .int v4)] [] (W9 N_38 C E_38 F_38 P Q T G U_41 H B O J V_41 Y Z O9_38) k_38 n_38) (g := True ∧ True ∧ True) (by with_unfolding_all rfl) ⟨trivial, trivial, trivial⟩ ?_
        by_cases c43 : r42 = r38
        · rw [if_pos c43] at h
          refine am_ev_pos c43 ?_
          refine am_ev_st 2 (f' := am_br (r38 ≠ 0) 344 329 [(6, .int r41), (5, .int r38), (0, .retAddr 0), (1, .ref 0), (2, .ref 19), (3, .ref 38), (4, .int v4)] [] (W9 N_38 C E_38 F_38 P Q T G U_41 H B O J V_41 Y Z O9_38) k_38 n_38) (g := True ∧ True ∧ True) (by with_unfolding_all rfl) ⟨trivial, trivial, trivial⟩ ?_
          by_cases c44 : r38 ≠ 0
          · rw [if_pos c44] at h
            refine am_ev_pos c44 ?_
            refine am_ev_st 3 (f' := (23, [(4, .int (v4 + (4 : Int32))), (6, .int r41), (5, .int r38), (0, .retAddr 0), (1, .ref 0), (2, .ref 19), (3, .ref 38)], [], (W9 N_38 C E_38 F_38 P Q T G U_41 H B O J V_41 Y Z O9_38), k_38, n_38)) (g := True ∧ True ∧ True ∧ True) (by with_unfolding_all rfl) ⟨trivial, trivial, trivial, trivial⟩ ?_
            refine am_ev_drop [3, 4, 5, 6, 0] rfl rfl ?_
            exact ih h
          · rw [if_neg c44] at h
            refine am_ev_neg c44 ?_
            cases h
        · rw [if_neg c43] at h
          refine am_ev_neg c43 ?_
          refine am_ev_st 1 (f' := (326, [(6, .int r41), (5, .int r38), (0, .retAddr 0), (1, .ref 0), (2, .ref 19), (3, .ref 38), (4, .int v4)], [.int (0 : Int32)], (W9 N_38 C E_38 F_38 P Q T G U_41 H B O J V_41 Y Z O9_38), k_38, n_38)) (g := True ∧ True) (by with_unfolding_all rfl) ⟨trivial, trivial⟩ ?_
          cases h
          exact am_ev_ret 0 0 0 rfl .boolean rfl am_n0 rfl
      rw [if_neg c35] at h
      refine am_ev_swne c35 ?_
      by_cases c45 : ((xs (v4).toNatClampNeg) &&& (15 : Int32)) = (5 : Int32)
      · rw [if_pos c45] at h
        refine am_ev_sweq c45 ?_
        by_cases g46 : ((v4 + (1 : Int32)) < 0 ∨ sl ≤ ((v4 + (1 : Int32))).toNatClampNeg)
        · rw [if_pos g46] at h; cases h
        rw [if_neg g46] at h
        by_cases g47 : ((v4 + (2 : Int32)) < 0 ∨ sl ≤ ((v4 + (2 : Int32))).toNatClampNeg)
        · rw [if_pos g47] at h; cases h
        rw [if_neg g47] at h
        by_cases g48 : ((v4 + (3 : Int32)) < 0 ∨ sl ≤ ((v4 + (3 : Int32))).toNatClampNeg)
        · rw [if_pos g48] at h; cases h
        rw [if_neg g48] at h
        refine am_ev_st 17 (f' := (367, [(0, .retAddr 0), (1, .ref 0), (2, .ref 19), (3, .ref 38), (4, .int v4)], [.ref 38, .int (xs ((v4 + (3 : Int32))).toNatClampNeg), .int (xs ((v4 + (2 : Int32))).toNatClampNeg), .int (xs ((v4 + (1 : Int32))).toNatClampNeg), .ref 0], (W9 N C E F P Q T G U H B O J V Y Z O9), k, n)) (g := True ∧ True ∧ True ∧ True ∧ True ∧ (0 < sl + 1 ∧ vp_in ((v4 + (1 : Int32))) sl) ∧ True ∧ True ∧ True ∧ True ∧ (0 < sl + 1 ∧ vp_in ((v4 + (2 : Int32))) sl) ∧ True ∧ True ∧ True ∧ True ∧ (0 < sl + 1 ∧ vp_in ((v4 + (3 : Int32))) sl) ∧ True ∧ True) (by with_unfolding_all rfl) ⟨trivial, trivial, trivial, trivial, trivial, ⟨Nat.succ_pos _, g46⟩, trivial, trivial, trivial, trivial, ⟨Nat.succ_pos _, g47⟩, trivial, trivial, trivial, trivial, ⟨Nat.succ_pos _, g48⟩, trivial, trivial⟩ ?_
        replace h := Option.bind_eq_some_iff.mp h
        obtain ⟨⟨r49, N_49, E_49, F_49, O9_49, ⟨k_49, n_49⟩⟩, hc49, h⟩ := h
        try dsimp only at h
        refine am_ev_call (.invokestatic 65) 128 10 626 [.ref 0, .int (xs ((v4 + (1 : Int32))).toNatClampNeg), .int (xs ((v4 + (2 : Int32))).toNatClampNeg), .int (xs ((v4 + (3 : Int32))).toNatClampNeg), .ref 38] [] rfl rfl rfl rfl (ok_fL_same hc49 D (by omega)) rfl ?_
        by_cases g50 : ((v4 + (1 : Int32)) < 0 ∨ sl ≤ ((v4 + (1 : Int32))).toNatClampNeg)
        · rw [if_pos g50] at h; cases h
        rw [if_neg g50] at h
        by_cases g51 : ((v4 + (2 : Int32)) < 0 ∨ sl ≤ ((v4 + (2 : Int32))).toNatClampNeg)
        · rw [if_pos g51] at h; cases h
        rw [if_neg g51] at h
        by_cases g52 : ((v4 + (3 : Int32)) < 0 ∨ sl ≤ ((v4 + (3 : Int32))).toNatClampNeg)
        · rw [if_pos g52] at h; cases h
        rw [if_neg g52] at h
        refine am_ev_st 17 (f' := (391, [(5, .int r49), (0, .retAddr 0), (1, .ref 0), (2, .ref 19), (3, .ref 38), (4, .int v4)], [.int (xs ((v4 + (3 : Int32))).toNatClampNeg), .int (xs ((v4 + (2 : Int32))).toNatClampNeg), .int (xs ((v4 + (1 : Int32))).toNatClampNeg), .ref 19], (W9 N_49 C E_49 F_49 P Q T G U H B O J V Y Z O9_49), k_49, n_49)) (g := True ∧ True ∧ True ∧ True ∧ True ∧ True ∧ (0 < sl + 1 ∧ vp_in ((v4 + (1 : Int32))) sl) ∧ True ∧ True ∧ True ∧ True ∧ (0 < sl + 1 ∧ vp_in ((v4 + (2 : Int32))) sl) ∧ True ∧ True ∧ True ∧ True ∧ (0 < sl + 1 ∧ vp_in ((v4 + (3 : Int32))) sl) ∧ True) (by with_unfolding_all rfl) ⟨trivial, trivial, trivial, trivial, trivial, trivial, ⟨Nat.succ_pos _, g50⟩, trivial, trivial, trivial, trivial, ⟨Nat.succ_pos _, g51⟩, trivial, trivial, trivial, trivial, ⟨Nat.succ_pos _, g52⟩, trivial⟩ ?_
        replace h := Option.bind_eq_some_iff.mp h
        obtain ⟨⟨r53, U_53, V_53⟩, hc53, h⟩ := h
        try dsimp only at h
        refine am_ev_call (.invokevirtual 68) 115 6 929 [.ref 19, .int (xs ((v4 + (1 : Int32))).toNatClampNeg), .int (xs ((v4 + (2 : Int32))).toNatClampNeg), .int (xs ((v4 + (3 : Int32))).toNatClampNeg)] [] rfl rfl rfl rfl (ok_fm_same hc53 D (by omega)) rfl ?_
        refine am_ev_st 2 (f' := (397, [(6, .int (am_bz r53)), (5, .int r49), (0, .retAddr 0), (1, .ref 0), (2, .ref 19), (3, .ref 38), (4, .int v4)], [.ref 19], (W9 N_49 C E_49 F_49 P Q T G U_53 H B O J V_53 Y Z O9_49), k_49, n_49)) (g := True ∧ True ∧ True) (by with_unfolding_all rfl) ⟨trivial, trivial, trivial⟩ ?_
        replace h := Option.bind_eq_some_iff.mp h
        obtain ⟨r54, hc54, h⟩ := h
        try dsimp only at h
        refine am_ev_call (.invokevirtual 59) 77 0 780 [.ref 19] [] rfl rfl rfl rfl (ok_fm_thrown hc54 D (by omega)) rfl ?_
        refine am_ev_st 2 (f' := am_br (r54 = r49) 407 402 [(6, .int (am_bz r53)), (5, .int r49), (0, .retAddr 0), (1, .ref 0), (2, .ref 19), (3, .ref 38), (4, .int v4)] [] (W9 N_49 C E_49 F_49 P Q T G U_53 H B O J V_53 Y Z O9_49) k_49 n_49) (g := True ∧ True ∧ True) (by with_unfolding_all rfl) ⟨trivial, trivial, trivial⟩ ?_
        by_cases c55 : r54 = r49
        · rw [if_pos c55] at h
          refine am_ev_pos c55 ?_
          refine am_ev_st 2 (f' := am_br (r49 ≠ 0) 431 409 [(6, .int (am_bz r53)), (5, .int r49), (0, .retAddr 0), (1, .ref 0), (2, .ref 19), (3, .ref 38), (4, .int v4)] [] (W9 N_49 C E_49 F_49 P Q T G U_53 H B O J V_53 Y Z O9_49) k_49 n_49) (g := True ∧ True ∧ True) (by with_unfolding_all rfl) ⟨trivial, trivial, trivial⟩ ?_
          by_cases c56 : r49 ≠ 0
          · rw [if_pos c56] at h
            refine am_ev_pos c56 ?_
            refine am_ev_st 3 (f' := (23, [(4, .int (v4 + (4 : Int32))), (6, .int (am_bz r53)), (5, .int r49), (0, .retAddr 0), (1, .ref 0), (2, .ref 19), (3, .ref 38)], [], (W9 N_49 C E_49 F_49 P Q T G U_53 H B O J V_53 Y Z O9_49), k_49, n_49)) (g := True ∧ True ∧ True ∧ True) (by with_unfolding_all rfl) ⟨trivial, trivial, trivial, trivial⟩ ?_
            refine am_ev_drop [3, 4, 5, 6, 0] rfl rfl ?_
            exact ih h
          · rw [if_neg c56] at h
            refine am_ev_neg c56 ?_
            cases h
        · rw [if_neg c55] at h
          refine am_ev_neg c55 ?_
          refine am_ev_st 1 (f' := (406, [(6, .int (am_bz r53)), (5, .int r49), (0, .retAddr 0), (1, .ref 0), (2, .ref 19), (3, .ref 38), (4, .int v4)], [.int (0 : Int32)], (W9 N_49 C E_49 F_49 P Q T G U_53 H B O J V_53 Y Z O9_49), k_49, n_49)) (g := True ∧ True) (by with_unfolding_all rfl) ⟨trivial, trivial⟩ ?_
          cases h
          exact am_ev_ret 0 0 0 rfl .boolean rfl am_n0 rfl
      rw [if_neg c45] at h
      refine am_ev_swne c45 ?_
      by_cases c57 : ((xs (v4).toNatClampNeg) &&& (15 : Int32)) = (6 : Int32)
      · rw [if_pos c57] at h
        refine am_ev_sweq c57 ?_
        by_cases g58 : ((v4 + (1 : Int32)) < 0 ∨ sl ≤ ((v4 + (1 : Int32))).toNatClampNeg)
        · rw [if_pos g58] at h; cases h
        rw [if_neg g58] at h
        by_cases g59 : ((v4 + (2 : Int32)) < 0 ∨ sl ≤ ((v4 + (2 : Int32))).toNatClampNeg)
        · rw [if_pos g59] at h; cases h
        rw [if_neg g59] at h
        by_cases g60 : ((v4 + (3 : Int32)) < 0 ∨ sl ≤ ((v4 + (3 : Int32))).toNatClampNeg)
        · rw [if_pos g60] at h; cases h
        rw [if_neg g60] at h
        refine am_ev_st 17 (f' := (454, [(0, .retAddr 0), (1, .ref 0), (2, .ref 19), (3, .ref 38), (4, .int v4)], [.ref 38, .int (xs ((v4 + (3 : Int32))).toNatClampNeg), .int (xs ((v4 + (2 : Int32))).toNatClampNeg), .int (xs ((v4 + (1 : Int32))).toNatClampNeg), .ref 0], (W9 N C E F P Q T G U H B O J V Y Z O9), k, n)) (g := True ∧ True ∧ True ∧ True ∧ True ∧ (0 < sl + 1 ∧ vp_in ((v4 + (1 : Int32))) sl) ∧ True ∧ True ∧ True ∧ True ∧ (0 < sl + 1 ∧ vp_in ((v4 + (2 : Int32))) sl) ∧ True ∧ True ∧ True ∧ True ∧ (0 < sl + 1 ∧ vp_in ((v4 + (3 : Int32))) sl) ∧ True ∧ True) (by with_unfolding_all rfl) ⟨trivial, trivial, trivial, trivial, trivial, ⟨Nat.succ_pos _, g58⟩, trivial, trivial, trivial, trivial, ⟨Nat.succ_pos _, g59⟩, trivial, trivial, trivial, trivial, ⟨Nat.succ_pos _, g60⟩, trivial, trivial⟩ ?_
        replace h := Option.bind_eq_some_iff.mp h
        obtain ⟨⟨r61, N_61, E_61, F_61, O9_61, ⟨k_61, n_61⟩⟩, hc61, h⟩ := h
        try dsimp only at h
        refine am_ev_call (.invokestatic 69) 129 10 634 [.ref 0, .int (xs ((v4 + (1 : Int32))).toNatClampNeg), .int (xs ((v4 + (2 : Int32))).toNatClampNeg), .int (xs ((v4 + (3 : Int32))).toNatClampNeg), .ref 38] [] rfl rfl rfl rfl (ok_fL_check hc61 D (by omega)) rfl ?_
        by_cases g62 : ((v4 + (1 : Int32)) < 0 ∨ sl ≤ ((v4 + (1 : Int32))).toNatClampNeg)
        · rw [if_pos g62] at h; cases h
        rw [if_neg g62] at h
        by_cases g63 : ((v4 + (2 : Int32)) < 0 ∨ sl ≤ ((v4 + (2 : Int32))).toNatClampNeg)
        · rw [if_pos g63] at h; cases h
        rw [if_neg g63] at h
        by_cases g64 : ((v4 + (3 : Int32)) < 0 ∨ sl ≤ ((v4 + (3 : Int32))).toNatClampNeg)
        · rw [if_pos g64] at h; cases h
        rw [if_neg g64] at h
        refine am_ev_st 17 (f' := (478, [(5, .int r61), (0, .retAddr 0), (1, .ref 0), (2, .ref 19), (3, .ref 38), (4, .int v4)], [.int (xs ((v4 + (3 : Int32))).toNatClampNeg), .int (xs ((v4 + (2 : Int32))).toNatClampNeg), .int (xs ((v4 + (1 : Int32))).toNatClampNeg), .ref 19], (W9 N_61 C E_61 F_61 P Q T G U H B O J V Y Z O9_61), k_61, n_61)) (g := True ∧ True ∧ True ∧ True ∧ True ∧ True ∧ (0 < sl + 1 ∧ vp_in ((v4 + (1 : Int32))) sl) ∧ True ∧ True ∧ True ∧ True ∧ (0 < sl + 1 ∧ vp_in ((v4 + (2 : Int32))) sl) ∧ True ∧ True ∧ True ∧ True ∧ (0 < sl + 1 ∧ vp_in ((v4 + (3 : Int32))) sl) ∧ True) (by with_unfolding_all rfl) ⟨trivial, trivial, trivial, trivial, trivial, trivial, ⟨Nat.succ_pos _, g62⟩, trivial, trivial, trivial, trivial, ⟨Nat.succ_pos _, g63⟩, trivial, trivial, trivial, trivial, ⟨Nat.succ_pos _, g64⟩, trivial⟩ ?_
        replace h := Option.bind_eq_some_iff.mp h
        obtain ⟨⟨r65, U_65, V_65⟩, hc65, h⟩ := h
        try dsimp only at h
        refine am_ev_call (.invokevirtual 71) 116 6 933 [.ref 19, .int (xs ((v4 + (1 : Int32))).toNatClampNeg), .int (xs ((v4 + (2 : Int32))).toNatClampNeg), .int (xs ((v4 + (3 : Int32))).toNatClampNeg)] [] rfl rfl rfl rfl (ok_fm_check hc65 D (by omega)) rfl ?_
        refine am_ev_st 2 (f' := (484, [(6, .int (am_bz r65)), (5, .int r61), (0, .retAddr 0), (1, .ref 0), (2, .ref 19), (3, .ref 38), (4, .int v4)], [.ref 19], (W9 N_61 C E_61 F_61 P Q T G U_65 H B O J V_65 Y Z O9_61), k_61, n_61)) (g := True ∧ True ∧ True) (by with_unfolding_all rfl) ⟨trivial, trivial, trivial⟩ ?_
        replace h := Option.bind_eq_some_iff.mp h
        obtain ⟨r66, hc66, h⟩ := h
        try dsimp only at h
        refine am_ev_call (.invokevirtual 59) 77 0 780 [.ref 19] [] rfl rfl rfl rfl (ok_fm_thrown hc66 D (by omega)) rfl ?_
        refine am_ev_st 2 (f' := am_br (r66 = r61) 494 489 [(6, .int (am_bz r65)), (5, .int r61), (0, .retAddr 0), (1, .ref 0), (2, .ref 19), (3, .ref 38), (4, .int v4)] [] (W9 N_61 C E_61 F_61 P Q T G U_65 H B O J V_65 Y Z O9_61) k_61 n_61) (g := True ∧ True ∧ True) (by with_unfolding_all rfl) ⟨trivial, trivial, trivial⟩ ?_
        by_cases c67 : r66 = r61
        · rw [if_pos c67] at h
          refine am_ev_pos c67 ?_
          refine am_ev_st 2 (f' := am_br (r61 ≠ 0) 518 496 [(6, .int (am_bz r65)), (5, .int r61), (0, .retAddr 0), (1, .ref 0), (2, .ref 19), (3, .ref 38), (4, .int v4)] [] (W9 N_61 C E_61 F_61 P Q T G U_65 H B O J V_65 Y Z O9_61) k_61 n_61) (g := True ∧ True ∧ True) (by with_unfolding_all rfl) ⟨trivial, trivial, trivial⟩ ?_
          by_cases c68 : r61 ≠ 0
          · rw [if_pos c68] at h
            refine am_ev_pos c68 ?_
            refine am_ev_st 3 (f' := (23, [(4, .int (v4 + (4 : Int32))), (6, .int (am_bz r65)), (5, .int r61), (0, .retAddr 0), (1, .ref 0), (2, .ref 19), (3, .ref 38)], [], (W9 N_61 C E_61 F_61 P Q T G U_65 H B O J V_65 Y Z O9_61), k_61, n_61)) (g := True ∧ True ∧ True ∧ True) (by with_unfolding_all rfl) ⟨trivial, trivial, trivial, trivial⟩ ?_
            refine am_ev_drop [3, 4, 5, 6, 0] rfl rfl ?_
            exact ih h
          · rw [if_neg c68] at h
            refine am_ev_neg c68 ?_
            cases h
        · rw [if_neg c67] at h
          refine am_ev_neg c67 ?_
          refine am_ev_st 1 (f' := (493, [(6, .int (am_bz r65)), (5, .int r61), (0, .retAddr 0), (1, .ref 0), (2, .ref 19), (3, .ref 38), (4, .int v4)], [.int (0 : Int32)], (W9 N_61 C E_61 F_61 P Q T G U_65 H B O J V_65 Y Z O9_61), k_61, n_61)) (g := True ∧ True) (by with_unfolding_all rfl) ⟨trivial, trivial⟩ ?_
          cases h
          exact am_ev_ret 0 0 0 rfl .boolean rfl am_n0 rfl
      rw [if_neg c57] at h
      refine am_ev_swne c57 ?_
      by_cases c69 : ((xs (v4).toNatClampNeg) &&& (15 : Int32)) = (7 : Int32)
      · rw [if_pos c69] at h
        refine am_ev_sweq c69 ?_
        by_cases g70 : ((v4 + (1 : Int32)) < 0 ∨ sl ≤ ((v4 + (1 : Int32))).toNatClampNeg)
        · rw [if_pos g70] at h; cases h
        rw [if_neg g70] at h
        by_cases g71 : ((v4 + (2 : Int32)) < 0 ∨ sl ≤ ((v4 + (2 : Int32))).toNatClampNeg)
        · rw [if_pos g71] at h; cases h
        rw [if_neg g71] at h
        refine am_ev_st 12 (f' := (535, [(0, .retAddr 0), (1, .ref 0), (2, .ref 19), (3, .ref 38), (4, .int v4)], [.ref 38, .int (xs ((v4 + (2 : Int32))).toNatClampNeg), .int (xs ((v4 + (1 : Int32))).toNatClampNeg), .ref 0], (W9 N C E F P Q T G U H B O J V Y Z O9), k, n)) (g := True ∧ True ∧ True ∧ True ∧ True ∧ (0 < sl + 1 ∧ vp_in ((v4 + (1 : Int32))) sl) ∧ True ∧ True ∧ True ∧ True ∧ (0 < sl + 1 ∧ vp_in ((v4 + (2 : Int32))) sl) ∧ True ∧ True) (by with_unfolding_all rfl) ⟨trivial, trivial, trivial, trivial, trivial, ⟨Nat.succ_pos _, g70⟩, trivial, trivial, trivial, trivial, ⟨Nat.succ_pos _, g71⟩, trivial, trivial⟩ ?_
        replace h := Option.bind_eq_some_iff.mp h
        obtain ⟨⟨r72, N_72, E_72, F_72, O9_72, ⟨k_72, n_72⟩⟩, hc72, h⟩ := h
        try dsimp only at h
        refine am_ev_call (.invokestatic 72) 130 8 642 [.ref 0, .int (xs ((v4 + (1 : Int32))).toNatClampNeg), .int (xs ((v4 + (2 : Int32))).toNatClampNeg), .ref 38] [] rfl rfl rfl rfl (ok_fL_declare hc72 D (by omega)) rfl ?_
        by_cases g73 : ((v4 + (1 : Int32)) < 0 ∨ sl ≤ ((v4 + (1 : Int32))).toNatClampNeg)
        · rw [if_pos g73] at h; cases h
        rw [if_neg g73] at h
        by_cases g74 : ((v4 + (2 : Int32)) < 0 ∨ sl ≤ ((v4 + (2 : Int32))).toNatClampNeg)
        · rw [if_pos g74] at h; cases h
        rw [if_neg g74] at h
        refine am_ev_st 12 (f' := (553, [(5, .int r72), (0, .retAddr 0), (1, .ref 0), (2, .ref 19), (3, .ref 38), (4, .int v4)], [.int (xs ((v4 + (2 : Int32))).toNatClampNeg), .int (xs ((v4 + (1 : Int32))).toNatClampNeg), .ref 19], (W9 N_72 C E_72 F_72 P Q T G U H B O J V Y Z O9_72), k_72, n_72)) (g := True ∧ True ∧ True ∧ True ∧ True ∧ True ∧ (0 < sl + 1 ∧ vp_in ((v4 + (1 : Int32))) sl) ∧ True ∧ True ∧ True ∧ True ∧ (0 < sl + 1 ∧ vp_in ((v4 + (2 : Int32))) sl) ∧ True) (by with_unfolding_all rfl) ⟨trivial, trivial, trivial, trivial, trivial, trivial, ⟨Nat.succ_pos _, g73⟩, trivial, trivial, trivial, trivial, ⟨Nat.succ_pos _, g74⟩, trivial⟩ ?_
        replace h := Option.bind_eq_some_iff.mp h
        obtain ⟨⟨r75, U_75, V_75⟩, hc75, h⟩ := h
        try dsimp only at h
        refine am_ev_call (.invokevirtual 74) 117 4 937 [.ref 19, .int (xs ((v4 + (1 : Int32))).toNatClampNeg), .int (xs ((v4 + (2 : Int32))).toNatClampNeg)] [] rfl rfl rfl rfl (ok_fm_declare hc75 D (by omega)) rfl ?_
        refine am_ev_st 2 (f' := (559, [(6, .int r75), (5, .int r72), (0, .retAddr 0), (1, .ref 0), (2, .ref 19), (3, .ref 38), (4, .int v4)], [.ref 19], (W9 N_72 C E_72 F_72 P Q T G U_75 H B O J V_75 Y Z O9_72), k_72, n_72)) (g := True ∧ True ∧ True) (by with_unfolding_all rfl) ⟨trivial, trivial, trivial⟩ ?_
        replace h := Option.bind_eq_some_iff.mp h
        obtain ⟨r76, hc76, h⟩ := h
        try dsimp only at h
        refine am_ev_call (.invokevirtual 59) 77 0 780 [.ref 19] [] rfl rfl rfl rfl (ok_fm_thrown hc76 D (by omega)) rfl ?_
        refine am_ev_st 2 (f' := am_br (r76 = r72) 569 564 [(6, .int r75), (5, .int r72), (0, .retAddr 0), (1, .ref 0), (2, .ref 19), (3, .ref 38), (4, .int v4)] [] (W9 N_72 C E_72 F_72 P Q T G U_75 H B O J V_75 Y Z O9_72) k_72 n_72) (g := True ∧ True ∧ True) (by with_unfolding_all rfl) ⟨trivial, trivial, trivial⟩ ?_
        by_cases c77 : r76 = r72
        · rw [if_pos c77] at h
          refine am_ev_pos c77 ?_
          refine am_ev_st 2 (f' := am_br (r72 ≠ 0) 586 571 [(6, .int r75), (5, .int r72), (0, .retAddr 0), (1, .ref 0), (2, .ref 19), (3, .ref 38), (4, .int v4)] [] (W9 N_72 C E_72 F_72 P Q T G U_75 H B O J V_75 Y Z O9_72) k_72 n_72) (g := True ∧ True ∧ True) (by with_unfolding_all rfl) ⟨trivial, trivial, trivial⟩ ?_
          by_cases c78 : r72 ≠ 0
          · rw [if_pos c78] at h
            refine am_ev_pos c78 ?_
            refine am_ev_st 3 (f' := (23, [(4, .int (v4 + (4 : Int32))), (6, .int r75), (5, .int r72), (0, .retAddr 0), (1, .ref 0), (2, .ref 19), (3, .ref 38)], [], (W9 N_72 C E_72 F_72 P Q T G U_75 H B O J V_75 Y Z O9_72), k_72, n_72)) (g := True ∧ True ∧ True ∧ True) (by with_unfolding_all rfl) ⟨trivial, trivial, trivial, trivial⟩ ?_
            refine am_ev_drop [3, 4, 5, 6, 0] rfl rfl ?_
            exact ih h
          · rw [if_neg c78] at h
            refine am_ev_neg c78 ?_
            cases h
        · rw [if_neg c77] at h
          refine am_ev_neg c77 ?_
          refine am_ev_st 1 (f' := (568, [(6, .int r75), (5, .int r72), (0, .retAddr 0), (1, .ref 0), (2, .ref 19), (3, .ref 38), (4, .int v4)], [.int (0 : Int32)], (W9 N_72 C E_72 F_72 P Q T G U_75 H B O J V_75 Y Z O9_72), k_72, n_72)) (g := True ∧ True) (by with_unfolding_all rfl) ⟨trivial, trivial⟩ ?_
          cases h
          exact am_ev_ret 0 0 0 rfl .boolean rfl am_n0 rfl
      rw [if_neg c69] at h
      refine am_ev_swne c69 ?_
      by_cases c79 : ((xs (v4).toNatClampNeg) &&& (15 : Int32)) = (8 : Int32)
      · rw [if_pos c79] at h
        refine am_ev_sweq c79 ?_
        by_cases g80 : ((v4 + (1 : Int32)) < 0 ∨ sl ≤ ((v4 + (1 : Int32))).toNatClampNeg)
        · rw [if_pos g80] at h; cases h
        rw [if_neg g80] at h
        by_cases g81 : ((v4 + (2 : Int32)) < 0 ∨ sl ≤ ((v4 + (2 : Int32))).toNatClampNeg)
        · rw [if_pos g81] at h; cases h
        rw [if_neg g81] at h
        refine am_ev_st 12 (f' := (603, [(0, .retAddr 0), (1, .ref 0), (2, .ref 19), (3, .ref 38), (4, .int v4)], [.ref 38, .int (xs ((v4 + (2 : Int32))).toNatClampNeg), .int (xs ((v4 + (1 : Int32))).toNatClampNeg), .ref 0], (W9 N C E F P Q T G U H B O J V Y Z O9), k, n)) (g := True ∧ True ∧ True ∧ True ∧ True ∧ (0 < sl + 1 ∧ vp_in ((v4 + (1 : Int32))) sl) ∧ True ∧ True ∧ True ∧ True ∧ (0 < sl + 1 ∧ vp_in ((v4 + (2 : Int32))) sl) ∧ True ∧ True) (by with_unfolding_all rfl) ⟨trivial, trivial, trivial, trivial, trivial, ⟨Nat.succ_pos _, g80⟩, trivial, trivial, trivial, trivial, ⟨Nat.succ_pos _, g81⟩, trivial, trivial⟩ ?_
        replace h := Option.bind_eq_some_iff.mp h
        obtain ⟨⟨r82, N_82, E_82, F_82, O9_82, ⟨k_82, n_82⟩⟩, hc82, h⟩ := h
        try dsimp only at h
        refine am_ev_call (.invokestatic 75) 131 8 661 [.ref 0, .int (xs ((v4 + (1 : Int32))).toNatClampNeg), .int (xs ((v4 + (2 : Int32))).toNatClampNeg), .ref 38] [] rfl rfl rfl rfl (ok_fL_define hc82 D (by omega)) rfl ?_
        by_cases g83 : ((v4 + (1 : Int32)) < 0 ∨ sl ≤ ((v4 + (1 : Int32))).toNatClampNeg)
        · rw [if_pos g83] at h; cases h
        rw [if_neg g83] at h
        by_cases g84 : ((v4 + (2 : Int32)) < 0 ∨ sl ≤ ((v4 + (2 : Int32))).toNatClampNeg)
        · rw [if_pos g84] at h; cases h
        rw [if_neg g84] at h
        refine am_ev_st 12 (f' := (621, [(5, .int r82), (0, .retAddr 0), (1, .ref 0), (2, .ref 19), (3, .ref 38), (4, .int v4)], [.int (xs ((v4 + (2 : Int32))).toNatClampNeg), .int (xs ((v4 + (1 : Int32))).toNatClampNeg), .ref 19], (W9 N_82 C E_82 F_82 P Q T G U H B O J V Y Z O9_82), k_82, n_82)) (g := True ∧ True ∧ True ∧ True ∧ True ∧ True ∧ (0 < sl + 1 ∧ vp_in ((v4 + (1 : Int32))) sl) ∧ True ∧ True ∧ True ∧ True ∧ (0 < sl + 1 ∧ vp_in ((v4 + (2 : Int32))) sl) ∧ True) (by with_unfolding_all rfl) ⟨trivial, trivial, trivial, trivial, trivial, trivial, ⟨Nat.succ_pos _, g83⟩, trivial, trivial, trivial, trivial, ⟨Nat.succ_pos _, g84⟩, trivial⟩ ?_
        replace h := Option.bind_eq_some_iff.mp h
        obtain ⟨⟨r85, U_85, V_85⟩, hc85, h⟩ := h
        try dsimp only at h
        refine am_ev_call (.invokevirtual 77) 118 4 941 [.ref 19, .int (xs ((v4 + (1 : Int32))).toNatClampNeg), .int (xs ((v4 + (2 : Int32))).toNatClampNeg)] [] rfl rfl rfl rfl (ok_fm_define hc85 D (by omega)) rfl ?_
        refine am_ev_st 2 (f' := (627, [(6, .int r85), (5, .int r82), (0, .retAddr 0), (1, .ref 0), (2, .ref 19), (3, .ref 38), (4, .int v4)], [.ref 19], (W9 N_82 C E_82 F_82 P Q T G U_85 H B O J V_85 Y Z O9_82), k_82, n_82)) (g := True ∧ True ∧ True) (by with_unfolding_all rfl) ⟨trivial, trivial, trivial⟩ ?_
        replace h := Option.bind_eq_some_iff.mp h
        obtain ⟨r86, hc86, h⟩ := h
        try dsimp only at h
        refine am_ev_call (.invokevirtual 59) 77 0 780 [.ref 19] [] rfl rfl rfl rfl (ok_fm_thrown hc86 D (by omega)) rfl ?_
        refine am_ev_st 2 (f' := am_br (r86 = r82) 637 632 [(6, .int r85), (5, .int r82), (0, .retAddr 0), (1, .ref 0), (2, .ref 19), (3, .ref 38), (4, .int v4)] [] (W9 N_82 C E_82 F_82 P Q T G U_85 H B O J V_85 Y Z O9_82) k_82 n_82) (g := True ∧ True ∧ True) (by with_unfolding_all rfl) ⟨trivial, trivial, trivial⟩ ?_
        by_cases c87 : r86 = r82
        · rw [if_pos c87] at h
          refine am_ev_pos c87 ?_
          refine am_ev_st 2 (f' := am_br (r82 ≠ 0) 654 639 [(6, .int r85), (5, .int r82), (0, .retAddr 0), (1, .ref 0), (2, .ref 19), (3, .ref 38), (4, .int v4)] [] (W9 N_82 C E_82 F_82 P Q T G U_85 H B O J V_85 Y Z O9_82) k_82 n_82) (g := True ∧ True ∧ True) (by with_unfolding_all rfl) ⟨trivial, trivial, trivial⟩ ?_
          by_cases c88 : r82 ≠ 0
          · rw [if_pos c88] at h
            refine am_ev_pos c88 ?_
            refine am_ev_st 3 (f' := (23, [(4, .int (v4 + (4 : Int32))), (6, .int r85), (5, .int r82), (0, .retAddr 0), (1, .ref 0), (2, .ref 19), (3, .ref 38)], [], (W9 N_82 C E_82 F_82 P Q T G U_85 H B O J V_85 Y Z O9_82), k_82, n_82)) (g := True ∧ True ∧ True ∧ True) (by with_unfolding_all rfl) ⟨trivial, trivial, trivial, trivial⟩ ?_
            refine am_ev_drop [3, 4, 5, 6, 0] rfl rfl ?_
            exact ih h
          · rw [if_neg c88] at h
            refine am_ev_neg c88 ?_
            cases h
        · rw [if_neg c87] at h
          refine am_ev_neg c87 ?_
          refine am_ev_st 1 (f' := (636, [(6, .int r85), (5, .int r82), (0, .retAddr 0), (1, .ref 0), (2, .ref 19), (3, .ref 38), (4, .int v4)], [.int (0 : Int32)], (W9 N_82 C E_82 F_82 P Q T G U_85 H B O J V_85 Y Z O9_82), k_82, n_82)) (g := True ∧ True) (by with_unfolding_all rfl) ⟨trivial, trivial⟩ ?_
          cases h
          exact am_ev_ret 0 0 0 rfl .boolean rfl am_n0 rfl
      rw [if_neg c79] at h
      refine am_ev_swne c79 ?_
      by_cases c89 : ((xs (v4).toNatClampNeg) &&& (15 : Int32)) = (9 : Int32)
      · rw [if_pos c89] at h
        refine am_ev_sweq c89 ?_
        refine am_ev_st 1 (f' := (658, [(0, .retAddr 0), (1, .ref 0), (2, .ref 19), (3, .ref 38), (4, .int v4)], [.ref 0], (W9 N C E F P Q T G U H B O J V Y Z O9), k, n)) (g := True ∧ True) (by with_unfolding_all rfl) ⟨trivial, trivial⟩ ?_
        replace h := Option.bind_eq_some_iff.mp h
        obtain ⟨r90, hc90, h⟩ := h
        try dsimp only at h
        refine am_ev_call (.invokevirtual 78) 65 0 276 [.ref 0] [] rfl rfl rfl rfl (ok_fJ_constants hc90 D (by omega)) rfl ?_
        refine am_ev_st 1 (f' := (662, [(0, .retAddr 0), (1, .ref 0), (2, .ref 19), (3, .ref 38), (4, .int v4)], [.ref 19, .int r90], (W9 N C E F P Q T G U H B O J V Y Z O9), k, n)) (g := True ∧ True) (by with_unfolding_all rfl) ⟨trivial, trivial⟩ ?_
        replace h := Option.bind_eq_some_iff.mp h
        obtain ⟨⟨r91, U_91⟩, hc91, h⟩ := h
        try dsimp only at h
        refine am_ev_call (.invokevirtual 81) 119 0 945 [.ref 19] [.int r90] rfl rfl rfl rfl (ok_fm_constants hc91 D (by omega)) rfl ?_
        refine am_ev_st 1 (f' := am_br (r90 = r91) 771 665 [(0, .retAddr 0), (1, .ref 0), (2, .ref 19), (3, .ref 38), (4, .int v4)] [] (W9 N C E F P Q T G U_91 H B O J V Y Z O9) k n) (g := True ∧ True) (by with_unfolding_all rfl) ⟨trivial, trivial⟩ ?_
        by_cases c92 : r90 = r91
        · rw [if_pos c92] at h
          refine am_ev_pos c92 ?_
          refine am_ev_st 2 (f' := (23, [(4, .int (v4 + (4 : Int32))), (0, .retAddr 0), (1, .ref 0), (2, .ref 19), (3, .ref 38)], [], (W9 N C E F P Q T G U_91 H B O J V Y Z O9), k, n)) (g := True ∧ True ∧ True) (by with_unfolding_all rfl) ⟨trivial, trivial, trivial⟩ ?_
          refine am_ev_drop [1, 2, 3, 4, 0] rfl rfl ?_
          exact ih h
        · rw [if_neg c92] at h
          refine am_ev_neg c92 ?_
          refine am_ev_st 1 (f' := (669, [(0, .retAddr 0), (1, .ref 0), (2, .ref 19), (3, .ref 38), (4, .int v4)], [.int (0 : Int32)], (W9 N C E F P Q T G U_91 H B O J V Y Z O9), k, n)) (g := True ∧ True) (by with_unfolding_all rfl) ⟨trivial, trivial⟩ ?_
          cases h
          exact am_ev_ret 0 0 0 rfl .boolean rfl am_n0 rfl
      rw [if_neg c89] at h
      refine am_ev_swne c89 ?_
      by_cases c93 : ((xs (v4).toNatClampNeg) &&& (15 : Int32)) = (10 : Int32)
      · rw [if_pos c93] at h
        refine am_ev_sweq c93 ?_
        by_cases g94 : ((v4 + (1 : Int32)) < 0 ∨ sl ≤ ((v4 + (1 : Int32))).toNatClampNeg)
        · rw [if_pos g94] at h; cases h
        rw [if_neg g94] at h
        refine am_ev_st 6 (f' := (677, [(0, .retAddr 0), (1, .ref 0), (2, .ref 19), (3, .ref 38), (4, .int v4)], [.int (xs ((v4 + (1 : Int32))).toNatClampNeg), .ref 0], (W9 N C E F P Q T G U H B O J V Y Z O9), k, n)) (g := True ∧ True ∧ True ∧ True ∧ True ∧ (0 < sl + 1 ∧ vp_in ((v4 + (1 : Int32))) sl) ∧ True) (by with_unfolding_all rfl) ⟨trivial, trivial, trivial, trivial, trivial, ⟨Nat.succ_pos _, g94⟩, trivial⟩ ?_
        replace h := Option.bind_eq_some_iff.mp h
        obtain ⟨r95, hc95, h⟩ := h
        try dsimp only at h
        refine am_ev_call (.invokevirtual 82) 66 2 284 [.ref 0, .int (xs ((v4 + (1 : Int32))).toNatClampNeg)] [] rfl rfl rfl rfl (ok_fJ_hasBody hc95 D (by omega)) rfl ?_
        by_cases g96 : ((v4 + (1 : Int32)) < 0 ∨ sl ≤ ((v4 + (1 : Int32))).toNatClampNeg)
        · rw [if_pos g96] at h; cases h
        rw [if_neg g96] at h
        refine am_ev_st 6 (f' := (687, [(0, .retAddr 0), (1, .ref 0), (2, .ref 19), (3, .ref 38), (4, .int v4)], [.int (xs ((v4 + (1 : Int32))).toNatClampNeg), .ref 19, .int (am_bz r95)], (W9 N C E F P Q T G U H B O J V Y Z O9), k, n)) (g := True ∧ True ∧ True ∧ True ∧ True ∧ (0 < sl + 1 ∧ vp_in ((v4 + (1 : Int32))) sl) ∧ True) (by with_unfolding_all rfl) ⟨trivial, trivial, trivial, trivial, trivial, ⟨Nat.succ_pos _, g96⟩, trivial⟩ ?_
        replace h := Option.bind_eq_some_iff.mp h
        obtain ⟨⟨r97, U_97⟩, hc97, h⟩ := h
        try dsimp only at h
        refine am_ev_call (.invokevirtual 86) 120 2 949 [.ref 19, .int (xs ((v4 + (1 : Int32))).toNatClampNeg)] [.int (am_bz r95)] rfl rfl rfl rfl (ok_fm_hasBody hc97 D (by omega)) rfl ?_
        refine am_ev_st 1 (f' := am_br ((am_bz r95) = (am_bz r97)) 771 690 [(0, .retAddr 0), (1, .ref 0), (2, .ref 19), (3, .ref 38), (4, .int v4)] [] (W9 N C E F P Q T G U_97 H B O J V Y Z O9) k n) (g := True ∧ True) (by with_unfolding_all rfl) ⟨trivial, trivial⟩ ?_
        by_cases c98 : (am_bz r95) = (am_bz r97)
        · rw [if_pos c98] at h
          refine am_ev_pos c98 ?_
          refine am_ev_st 2 (f' := (23, [(4, .int (v4 + (4 : Int32))), (0, .retAddr 0), (1, .ref 0), (2, .ref 19), (3, .ref 38)], [], (W9 N C E F P Q T G U_97 H B O J V Y Z O9), k, n)) (g := True ∧ True ∧ True) (by with_unfolding_all rfl) ⟨trivial, trivial, trivial⟩ ?_
          refine am_ev_drop [1, 2, 3, 4, 0] rfl rfl ?_
          exact ih h
        · rw [if_neg c98] at h
          refine am_ev_neg c98 ?_
          refine am_ev_st 1 (f' := (694, [(0, .retAddr 0), (1, .ref 0), (2, .ref 19), (3, .ref 38), (4, .int v4)], [.int (0 : Int32)], (W9 N C E F P Q T G U_97 H B O J V Y Z O9), k, n)) (g := True ∧ True) (by with_unfolding_all rfl) ⟨trivial, trivial⟩ ?_
          cases h
          exact am_ev_ret 0 0 0 rfl .boolean rfl am_n0 rfl
      rw [if_neg c93] at h
      refine am_ev_swne c93 ?_
      by_cases c99 : ((xs (v4).toNatClampNeg) &&& (15 : Int32)) = (11 : Int32)
      · rw [if_pos c99] at h
        refine am_ev_sweq c99 ?_
        by_cases g100 : ((v4 + (1 : Int32)) < 0 ∨ sl ≤ ((v4 + (1 : Int32))).toNatClampNeg)
        · rw [if_pos g100] at h; cases h
        rw [if_neg g100] at h
        refine am_ev_st 6 (f' := (702, [(0, .retAddr 0), (1, .ref 0), (2, .ref 19), (3, .ref 38), (4, .int v4)], [.int (xs ((v4 + (1 : Int32))).toNatClampNeg), .ref 0], (W9 N C E F P Q T G U H B O J V Y Z O9), k, n)) (g := True ∧ True ∧ True ∧ True ∧ True ∧ (0 < sl + 1 ∧ vp_in ((v4 + (1 : Int32))) sl) ∧ True) (by with_unfolding_all rfl) ⟨trivial, trivial, trivial, trivial, trivial, ⟨Nat.succ_pos _, g100⟩, trivial⟩ ?_
        replace h := Option.bind_eq_some_iff.mp h
        obtain ⟨r101, hc101, h⟩ := h
        try dsimp only at h
        refine am_ev_call (.invokevirtual 87) 67 2 293 [.ref 0, .int (xs ((v4 + (1 : Int32))).toNatClampNeg)] [] rfl rfl rfl rfl (ok_fJ_typeOf hc101 D (by omega)) rfl ?_
        by_cases g102 : ((v4 + (1 : Int32)) < 0 ∨ sl ≤ ((v4 + (1 : Int32))).toNatClampNeg)
        · rw [if_pos g102] at h; cases h
        rw [if_neg g102] at h
        refine am_ev_st 6 (f' := (712, [(0, .retAddr 0), (1, .ref 0), (2, .ref 19), (3, .ref 38), (4, .int v4)], [.int (xs ((v4 + (1 : Int32))).toNatClampNeg), .ref 19, .int r101], (W9 N C E F P Q T G U H B O J V Y Z O9), k, n)) (g := True ∧ True ∧ True ∧ True ∧ True ∧ (0 < sl + 1 ∧ vp_in ((v4 + (1 : Int32))) sl) ∧ True) (by with_unfolding_all rfl) ⟨trivial, trivial, trivial, trivial, trivial, ⟨Nat.succ_pos _, g102⟩, trivial⟩ ?_
        replace h := Option.bind_eq_some_iff.mp h
        obtain ⟨⟨r103, U_103⟩, hc103, h⟩ := h
        try dsimp only at h
        refine am_ev_call (.invokevirtual 91) 121 2 953 [.ref 19, .int (xs ((v4 + (1 : Int32))).toNatClampNeg)] [.int r101] rfl rfl rfl rfl (ok_fm_typeOf hc103 D (by omega)) rfl ?_
        refine am_ev_st 1 (f' := am_br (r101 = r103) 771 715 [(0, .retAddr 0), (1, .ref 0), (2, .ref 19), (3, .ref 38), (4, .int v4)] [] (W9 N C E F P Q T G U_103 H B O J V Y Z O9) k n) (g := True ∧ True) (by with_unfolding_all rfl) ⟨trivial, trivial⟩ ?_
        by_cases c104 : r101 = r103
        · rw [if_pos c104] at h
          refine am_ev_pos c104 ?_
          refine am_ev_st 2 (f' := (23, [(4, .int (v4 + (4 : Int32))), (0, .retAddr 0), (1, .ref 0), (2, .ref 19), (3, .ref 38)], [], (W9 N C E F P Q T G U_103 H B O J V Y Z O9), k, n)) (g := True ∧ True ∧ True) (by with_unfolding_all rfl) ⟨trivial, trivial, trivial⟩ ?_
          refine am_ev_drop [1, 2, 3, 4, 0] rfl rfl ?_
          exact ih h
        · rw [if_neg c104] at h
          refine am_ev_neg c104 ?_
          refine am_ev_st 1 (f' := (719, [(0, .retAddr 0), (1, .ref 0), (2, .ref 19), (3, .ref 38), (4, .int v4)], [.int (0 : Int32)], (W9 N C E F P Q T G U_103 H B O J V Y Z O9), k, n)) (g := True ∧ True) (by with_unfolding_all rfl) ⟨trivial, trivial⟩ ?_
          cases h
          exact am_ev_ret 0 0 0 rfl .boolean rfl am_n0 rfl
      rw [if_neg c99] at h
      refine am_ev_swne c99 ?_
      by_cases c105 : ((xs (v4).toNatClampNeg) &&& (15 : Int32)) = (12 : Int32)
      · rw [if_pos c105] at h
        refine am_ev_sweq c105 ?_
        by_cases g106 : ((v4 + (1 : Int32)) < 0 ∨ sl ≤ ((v4 + (1 : Int32))).toNatClampNeg)
        · rw [if_pos g106] at h; cases h
        rw [if_neg g106] at h
        refine am_ev_st 6 (f' := (727, [(0, .retAddr 0), (1, .ref 0), (2, .ref 19), (3, .ref 38), (4, .int v4)], [.int (xs ((v4 + (1 : Int32))).toNatClampNeg), .ref 0], (W9 N C E F P Q T G U H B O J V Y Z O9), k, n)) (g := True ∧ True ∧ True ∧ True ∧ True ∧ (0 < sl + 1 ∧ vp_in ((v4 + (1 : Int32))) sl) ∧ True) (by with_unfolding_all rfl) ⟨trivial, trivial, trivial, trivial, trivial, ⟨Nat.succ_pos _, g106⟩, trivial⟩ ?_
        replace h := Option.bind_eq_some_iff.mp h
        obtain ⟨r107, hc107, h⟩ := h
        try dsimp only at h
        refine am_ev_call (.invokevirtual 92) 68 2 313 [.ref 0, .int (xs ((v4 + (1 : Int32))).toNatClampNeg)] [] rfl rfl rfl rfl (ok_fJ_mark hc107 D (by omega)) rfl ?_
        by_cases g108 : ((v4 + (1 : Int32)) < 0 ∨ sl ≤ ((v4 + (1 : Int32))).toNatClampNeg)
        · rw [if_pos g108] at h; cases h
        rw [if_neg g108] at h
        refine am_ev_st 6 (f' := (737, [(0, .retAddr 0), (1, .ref 0), (2, .ref 19), (3, .ref 38), (4, .int v4)], [.int (xs ((v4 + (1 : Int32))).toNatClampNeg), .ref 19, .int r107], (W9 N C E F P Q T G U H B O J V Y Z O9), k, n)) (g := True ∧ True ∧ True ∧ True ∧ True ∧ (0 < sl + 1 ∧ vp_in ((v4 + (1 : Int32))) sl) ∧ True) (by with_unfolding_all rfl) ⟨trivial, trivial, trivial, trivial, trivial, ⟨Nat.succ_pos _, g108⟩, trivial⟩ ?_
        replace h := Option.bind_eq_some_iff.mp h
        obtain ⟨⟨r109, U_109⟩, hc109, h⟩ := h
        try dsimp only at h
        refine am_ev_call (.invokevirtual 95) 122 2 957 [.ref 19, .int (xs ((v4 + (1 : Int32))).toNatClampNeg)] [.int r107] rfl rfl rfl rfl (ok_fm_mark hc109 D (by omega)) rfl ?_
        refine am_ev_st 1 (f' := am_br (r107 = r109) 771 740 [(0, .retAddr 0), (1, .ref 0), (2, .ref 19), (3, .ref 38), (4, .int v4)] [] (W9 N C E F P Q T G U_109 H B O J V Y Z O9) k n) (g := True ∧ True) (by with_unfolding_all rfl) ⟨trivial, trivial⟩ ?_
        by_cases c110 : r107 = r109
        · rw [if_pos c110] at h
          refine am_ev_pos c110 ?_
          refine am_ev_st 2 (f' := (23, [(4, .int (v4 + (4 : Int32))), (0, .retAddr 0), (1, .ref 0), (2, .ref 19), (3, .ref 38)], [], (W9 N C E F P Q T G U_109 H B O J V Y Z O9), k, n)) (g := True ∧ True ∧ True) (by with_unfolding_all rfl) ⟨trivial, trivial, trivial⟩ ?_
          refine am_ev_drop [1, 2, 3, 4, 0] rfl rfl ?_
          exact ih h
        · rw [if_neg c110] at h
          refine am_ev_neg c110 ?_
          refine am_ev_st 1 (f' := (744, [(0, .retAddr 0), (1, .ref 0), (2, .ref 19), (3, .ref 38), (4, .int v4)], [.int (0 : Int32)], (W9 N C E F P Q T G U_109 H B O J V Y Z O9), k, n)) (g := True ∧ True) (by with_unfolding_all rfl) ⟨trivial, trivial⟩ ?_
          cases h
          exact am_ev_ret 0 0 0 rfl .boolean rfl am_n0 rfl
      rw [if_neg c105] at h
      refine am_ev_swne c105 ?_
      by_cases c111 : ((xs (v4).toNatClampNeg) &&& (15 : Int32)) = (13 : Int32)
      · rw [if_pos c111] at h
        refine am_ev_sweq c111 ?_
        refine am_ev_st 1 (f' := (746, [(0, .retAddr 0), (1, .ref 0), (2, .ref 19), (3, .ref 38), (4, .int v4)], [.ref 0], (W9 N C E F P Q T G U H B O J V Y Z O9), k, n)) (g := True ∧ True) (by with_unfolding_all rfl) ⟨trivial, trivial⟩ ?_
        replace h := Option.bind_eq_some_iff.mp h
        obtain ⟨r112, hc112, h⟩ := h
        try dsimp only at h
        refine am_ev_call (.invokevirtual 96) 69 0 321 [.ref 0] [] rfl rfl rfl rfl (ok_fJ_keep hc112 D (by omega)) rfl ?_
        refine am_ev_st 1 (f' := (750, [(0, .retAddr 0), (1, .ref 0), (2, .ref 19), (3, .ref 38), (4, .int v4)], [.ref 19, .int r112], (W9 N C E F P Q T G U H B O J V Y Z O9), k, n)) (g := True ∧ True) (by with_unfolding_all rfl) ⟨trivial, trivial⟩ ?_
        replace h := Option.bind_eq_some_iff.mp h
        obtain ⟨⟨r113, U_113⟩, hc113, h⟩ := h
        try dsimp only at h
        refine am_ev_call (.invokevirtual 99) 124 0 961 [.ref 19] [.int r112] rfl rfl rfl rfl (ok_fm_keep hc113 D (by omega)) rfl ?_
        refine am_ev_st 1 (f' := am_br (r112 = r113) 771 753 [(0, .retAddr 0), (1, .ref 0), (2, .ref 19), (3, .ref 38), (4, .int v4)] [] (W9 N C E F P Q T G U_113 H B O J V Y Z O9) k n) (g := True ∧ True) (by with_unfolding_all rfl) ⟨trivial, trivial⟩ ?_
        by_cases c114 : r112 = r113
        · rw [if_pos c114] at h
          refine am_ev_pos c114 ?_
          refine am_ev_st 2 (f' := (23, [(4, .int (v4 + (4 : Int32))), (0, .retAddr 0), (1, .ref 0), (2, .ref 19), (3, .ref 38)], [], (W9 N C E F P Q T G U_113 H B O J V Y Z O9), k, n)) (g := True ∧ True ∧ True) (by with_unfolding_all rfl) ⟨trivial, trivial, trivial⟩ ?_
          refine am_ev_drop [1, 2, 3, 4, 0] rfl rfl ?_
          exact ih h
        · rw [if_neg c114] at h
          refine am_ev_neg c114 ?_
          refine am_ev_st 1 (f' := (757, [(0, .retAddr 0), (1, .ref 0), (2, .ref 19), (3, .ref 38), (4, .int v4)], [.int (0 : Int32)], (W9 N C E F P Q T G U_113 H B O J V Y Z O9), k, n)) (g := True ∧ True) (by with_unfolding_all rfl) ⟨trivial, trivial⟩ ?_
          cases h
          exact am_ev_ret 0 0 0 rfl .boolean rfl am_n0 rfl
      rw [if_neg c111] at h
      refine am_ev_swne c111 ?_
      by_cases c115 : ((xs (v4).toNatClampNeg) &&& (15 : Int32)) = (14 : Int32)
      · rw [if_pos c115] at h
        refine am_ev_sweq c115 ?_
        refine am_ev_st 1 (f' := (759, [(0, .retAddr 0), (1, .ref 0), (2, .ref 19), (3, .ref 38), (4, .int v4)], [.ref 0], (W9 N C E F P Q T G U H B O J V Y Z O9), k, n)) (g := True ∧ True) (by with_unfolding_all rfl) ⟨trivial, trivial⟩ ?_
        replace h := Option.bind_eq_some_iff.mp h
        obtain ⟨r116, hc116, h⟩ := h
        try dsimp only at h
        refine am_ev_call (.invokevirtual 100) 70 0 447 [.ref 0] [] rfl rfl rfl rfl (ok_fJ_reduced hc116 D (by omega)) rfl ?_
        refine am_ev_st 1 (f' := (763, [(0, .retAddr 0), (1, .ref 0), (2, .ref 19), (3, .ref 38), (4, .int v4)], [.ref 19, .int r116], (W9 N C E F P Q T G U H B O J V Y Z O9), k, n)) (g := True ∧ True) (by with_unfolding_all rfl) ⟨trivial, trivial⟩ ?_
        replace h := Option.bind_eq_some_iff.mp h
        obtain ⟨⟨r117, U_117⟩, hc117, h⟩ := h
        try dsimp only at h
        refine am_ev_call (.invokevirtual 103) 125 0 970 [.ref 19] [.int r116] rfl rfl rfl rfl (ok_fm_reduced hc117 D (by omega)) rfl ?_
        refine am_ev_st 1 (f' := am_br (r116 = r117) 771 766 [(0, .retAddr 0), (1, .ref 0), (2, .ref 19), (3, .ref 38), (4, .int v4)] [] (W9 N C E F P Q T G U_117 H B O J V Y Z O9) k n) (g := True ∧ True) (by with_unfolding_all rfl) ⟨trivial, trivial⟩ ?_
        by_cases c118 : r116 = r117
        · rw [if_pos c118] at h
          refine am_ev_pos c118 ?_
          refine am_ev_st 2 (f' := (23, [(4, .int (v4 + (4 : Int32))), (0, .retAddr 0), (1, .ref 0), (2, .ref 19), (3, .ref 38)], [], (W9 N C E F P Q T G U_117 H B O J V Y Z O9), k, n)) (g := True ∧ True ∧ True) (by with_unfolding_all rfl) ⟨trivial, trivial, trivial⟩ ?_
          refine am_ev_drop [1, 2, 3, 4, 0] rfl rfl ?_
          exact ih h
        · rw [if_neg c118] at h
          refine am_ev_neg c118 ?_
          refine am_ev_st 1 (f' := (770, [(0, .retAddr 0), (1, .ref 0), (2, .ref 19), (3, .ref 38), (4, .int v4)], [.int (0 : Int32)], (W9 N C E F P Q T G U_117 H B O J V Y Z O9), k, n)) (g := True ∧ True) (by with_unfolding_all rfl) ⟨trivial, trivial⟩ ?_
          cases h
          exact am_ev_ret 0 0 0 rfl .boolean rfl am_n0 rfl
      rw [if_neg c115] at h
      refine am_ev_swne c115 ?_
      refine am_ev_sw0 ?_
      refine am_ev_st 2 (f' := (23, [(4, .int (v4 + (4 : Int32))), (0, .retAddr 0), (1, .ref 0), (2, .ref 19), (3, .ref 38)], [], (W9 N C E F P Q T G U H B O J V Y Z O9), k, n)) (g := True ∧ True ∧ True) (by with_unfolding_all rfl) ⟨trivial, trivial, trivial⟩ ?_
      refine am_ev_drop [1, 2, 3, 4, 0] rfl rfl ?_
      exact ih h
