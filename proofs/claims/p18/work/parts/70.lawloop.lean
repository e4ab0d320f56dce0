def jp_f_law_529 (sl : Nat) (xs : Nat → Int32) (fl : Nat) (d : Nat) (K : cN → cC → cE → cF → cP → cQ → Nat → Nat → Int32 → Option (Bool × cN × cC × cE × cF × cP × cQ × (Nat × Nat))) (N : cN) (C : cC) (E : cE) (F : cF) (P : cP) (Q : cQ) (k n : Nat) : Option (Bool × cN × cC × cE × cF × cP × cQ × (Nat × Nat)) :=
  some (true, N, C, E, F, P, Q, (k, n))
def jp_f_law_239 (sl : Nat) (xs : Nat → Int32) (fl : Nat) (d : Nat) (K : cN → cC → cE → cF → cP → cQ → Nat → Nat → Int32 → Option (Bool × cN × cC × cE × cF × cP × cQ × (Nat × Nat))) (N : cN) (C : cC) (E : cE) (F : cF) (P : cP) (Q : cQ) (k n : Nat) : Option (Bool × cN × cC × cE × cF × cP × cQ × (Nat × Nat)) :=
  some (false, N, C, E, F, P, Q, (k, n))
def jp_f_law_343 (sl : Nat) (xs : Nat → Int32) (fl : Nat) (d : Nat) (K : cN → cC → cE → cF → cP → cQ → Nat → Nat → Int32 → Option (Bool × cN × cC × cE × cF × cP × cQ × (Nat × Nat))) (N : cN) (C : cC) (E : cE) (F : cF) (P : cP) (Q : cQ) (k n : Nat) : Option (Bool × cN × cC × cE × cF × cP × cQ × (Nat × Nat)) :=
  some (false, N, C, E, F, P, Q, (k, n))
def jp_f_law_523 (sl : Nat) (xs : Nat → Int32) (fl : Nat) (d : Nat) (K : cN → cC → cE → cF → cP → cQ → Nat → Nat → Int32 → Option (Bool × cN × cC × cE × cF × cP × cQ × (Nat × Nat))) (N : cN) (C : cC) (E : cE) (F : cF) (P : cP) (Q : cQ) (k n : Nat) (v3 : Int32) : Option (Bool × cN × cC × cE × cF × cP × cQ × (Nat × Nat)) :=
  K N C E F P Q k n (v3 + (1 : Int32))
def jp_f_law_410 (sl : Nat) (xs : Nat → Int32) (fl : Nat) (d : Nat) (K : cN → cC → cE → cF → cP → cQ → Nat → Nat → Int32 → Option (Bool × cN × cC × cE × cF × cP × cQ × (Nat × Nat))) (N : cN) (C : cC) (E : cE) (F : cF) (P : cP) (Q : cQ) (k n : Nat) : Option (Bool × cN × cC × cE × cF × cP × cQ × (Nat × Nat)) :=
  some (false, N, C, E, F, P, Q, (k, n))
def jp_f_law_521 (sl : Nat) (xs : Nat → Int32) (fl : Nat) (d : Nat) (K : cN → cC → cE → cF → cP → cQ → Nat → Nat → Int32 → Option (Bool × cN × cC × cE × cF × cP × cQ × (Nat × Nat))) (N : cN) (C : cC) (E : cE) (F : cF) (P : cP) (Q : cQ) (k n : Nat) : Option (Bool × cN × cC × cE × cF × cP × cQ × (Nat × Nat)) :=
  some (false, N, C, E, F, P, Q, (k, n))
def jp_f_law_465 (sl : Nat) (xs : Nat → Int32) (fl : Nat) (d : Nat) (K : cN → cC → cE → cF → cP → cQ → Nat → Nat → Int32 → Option (Bool × cN × cC × cE × cF × cP × cQ × (Nat × Nat))) (N : cN) (C : cC) (E : cE) (F : cF) (P : cP) (Q : cQ) (k n : Nat) (v3 v12 v16 v17 : Int32) : Option (Bool × cN × cC × cE × cF × cP × cQ × (Nat × Nat)) :=
  (fJ_typeOf d N C P v16).bind fun z51 =>
  match z51 with
  | (r51, P_51) =>
  if r51 < (1 : Int32) then
  (jp_f_law_521 sl xs fl d K N C E F P_51 Q k n)
  else
  if v17 < 0 then
  (jp_f_law_523 sl xs fl d K N C E F P_51 Q k n v3)
  else
  (fL_reduce fl d N C E F P_51 k n v17 (0 : Int32)).bind fun z54 =>
  match z54 with
  | (r54, N_54, E_54, F_54, P_54, (k_54, n_54)) =>
  if r54 ≠ (-3 : Int32) then
  (jp_f_law_521 sl xs fl d K N_54 C E_54 F_54 P_54 Q k_54 n_54)
  else
  (fL_reduce fl d N_54 C E_54 F_54 P_54 k_54 n_54 v17 (30 : Int32)).bind fun z56 =>
  match z56 with
  | (r56, N_56, E_56, F_56, P_56, (k_56, n_56)) =>
  if r56 < 0 then
  (jp_f_law_523 sl xs fl d K N_56 C E_56 F_56 P_56 Q k_56 n_56 v3)
  else
  if (30 : Int32) ≤ v12 then
  (jp_f_law_523 sl xs fl d K N_56 C E_56 F_56 P_56 Q k_56 n_56 v3)
  else
  (fJ_reduced E_56).bind fun z59 =>
  match z59 with
  | (r59) =>
  if r59 = (v12 + (1 : Int32)) then
  (jp_f_law_523 sl xs fl d K N_56 C E_56 F_56 P_56 Q k_56 n_56 v3)
  else
  jp_f_law_521 sl xs fl d K N_56 C E_56 F_56 P_56 Q k_56 n_56
def jp_f_law_450 (sl : Nat) (xs : Nat → Int32) (fl : Nat) (d : Nat) (K : cN → cC → cE → cF → cP → cQ → Nat → Nat → Int32 → Option (Bool × cN × cC × cE × cF × cP × cQ × (Nat × Nat))) (N : cN) (C : cC) (E : cE) (F : cF) (P : cP) (Q : cQ) (k n : Nat) (v3 v12 v16 v17 s0 : Int32) : Option (Bool × cN × cC × cE × cF × cP × cQ × (Nat × Nat)) :=
  if s0 = (1 : Int32) then
  (jp_f_law_465 sl xs fl d K N C E F P Q k n v3 v12 v16 v17)
  else
  if s0 ≠ (-3 : Int32) then
  (jp_f_law_521 sl xs fl d K N C E F P Q k n)
  else
  jp_f_law_465 sl xs fl d K N C E F P Q k n v3 v12 v16 v17
def jp_f_law_412 (sl : Nat) (xs : Nat → Int32) (fl : Nat) (d : Nat) (K : cN → cC → cE → cF → cP → cQ → Nat → Nat → Int32 → Option (Bool × cN × cC × cE × cF × cP × cQ × (Nat × Nat))) (N : cN) (C : cC) (E : cE) (F : cF) (P : cP) (Q : cQ) (k n : Nat) (v3 v8 v12 v16 : Int32) : Option (Bool × cN × cC × cE × cF × cP × cQ × (Nat × Nat)) :=
  if 0 ≤ v16 then
  ((fJ_make N C (5 : Int32) v16 (0 : Int32)).bind fun z47 =>
  match z47 with
  | (r47, N_47) =>
  if 0 ≤ r47 then
  ((fL_same fl d N_47 C E F k n r47 v8 (30 : Int32)).bind fun z49 =>
  match z49 with
  | (r49, N_49, E_49, F_49, (k_49, n_49)) =>
  jp_f_law_450 sl xs fl d K N_49 C E_49 F_49 P Q k_49 n_49 v3 v12 v16 r47 r49)
  else
  jp_f_law_450 sl xs fl d K N_47 C E F P Q k n v3 v12 v16 r47 (-3 : Int32))
  else
  jp_f_law_523 sl xs fl d K N C E F P Q k n v3
def jp_f_law_325 (sl : Nat) (xs : Nat → Int32) (fl : Nat) (d : Nat) (K : cN → cC → cE → cF → cP → cQ → Nat → Nat → Int32 → Option (Bool × cN × cC × cE × cF × cP × cQ × (Nat × Nat))) (N : cN) (C : cC) (E : cE) (F : cF) (P : cP) (Q : cQ) (k n : Nat) (v3 v4 v8 v12 v13 : Int32) : Option (Bool × cN × cC × cE × cF × cP × cQ × (Nat × Nat)) :=
  (fL_reduce fl d N C E F P k n v13 (0 : Int32)).bind fun z33 =>
  match z33 with
  | (r33, N_33, E_33, F_33, P_33, (k_33, n_33)) =>
  if r33 < (1 : Int32) then
  (jp_f_law_343 sl xs fl d K N_33 C E_33 F_33 P_33 Q k_33 n_33)
  else
  (fJ_reduced E_33).bind fun z35 =>
  match z35 with
  | (r35) =>
  if r35 = 0 then
  (if ((v4 >>> ((20 : Int32) &&& 31)) &&& (7 : Int32)) ≠ 0 then
  (jp_f_law_523 sl xs fl d K N_33 C E_33 F_33 P_33 Q k_33 n_33 v3)
  else
  (fJ_constants C).bind fun z38 =>
  match z38 with
  | (r38) =>
  if (9 : Int32) ≤ r38 then
  (jp_f_law_523 sl xs fl d K N_33 C E_33 F_33 P_33 Q k_33 n_33 v3)
  else
  (fL_define fl d N_33 C E_33 F_33 Q k_33 n_33 v8 (30 : Int32)).bind fun z40 =>
  match z40 with
  | (r40, N_40, C_40, E_40, F_40, Q_40, (k_40, n_40)) =>
  if 0 ≤ r40 then
  ((fJ_constants C_40).bind fun z42 =>
  match z42 with
  | (r42) =>
  if r40 ≠ (r42 - (1 : Int32)) then
  (jp_f_law_410 sl xs fl d K N_40 C_40 E_40 F_40 P_33 Q_40 k_40 n_40)
  else
  (fJ_hasBody C_40 r40).bind fun z44 =>
  match z44 with
  | (r44) =>
  if (am_bz r44) ≠ 0 then
  (jp_f_law_412 sl xs fl d K N_40 C_40 E_40 F_40 P_33 Q_40 k_40 n_40 v3 v8 v12 r40)
  else
  jp_f_law_410 sl xs fl d K N_40 C_40 E_40 F_40 P_33 Q_40 k_40 n_40)
  else
  if r40 = (-3 : Int32) then
  (jp_f_law_412 sl xs fl d K N_40 C_40 E_40 F_40 P_33 Q_40 k_40 n_40 v3 v8 v12 r40)
  else
  jp_f_law_410 sl xs fl d K N_40 C_40 E_40 F_40 P_33 Q_40 k_40 n_40)
  else
  jp_f_law_343 sl xs fl d K N_33 C E_33 F_33 P_33 Q k_33 n_33
def jp_f_law_312 (sl : Nat) (xs : Nat → Int32) (fl : Nat) (d : Nat) (K : cN → cC → cE → cF → cP → cQ → Nat → Nat → Int32 → Option (Bool × cN × cC × cE × cF × cP × cQ × (Nat × Nat))) (N : cN) (C : cC) (E : cE) (F : cF) (P : cP) (Q : cQ) (k n : Nat) (v3 v4 v8 v12 v13 v15 : Int32) : Option (Bool × cN × cC × cE × cF × cP × cQ × (Nat × Nat)) :=
  if v15 = (1 : Int32) then
  (jp_f_law_325 sl xs fl d K N C E F P Q k n v3 v4 v8 v12 v13)
  else
  if v15 ≠ (-3 : Int32) then
  (jp_f_law_343 sl xs fl d K N C E F P Q k n)
  else
  jp_f_law_325 sl xs fl d K N C E F P Q k n v3 v4 v8 v12 v13
def jp_f_law_241 (sl : Nat) (xs : Nat → Int32) (fl : Nat) (d : Nat) (K : cN → cC → cE → cF → cP → cQ → Nat → Nat → Int32 → Option (Bool × cN × cC × cE × cF × cP × cQ × (Nat × Nat))) (N : cN) (C : cC) (E : cE) (F : cF) (P : cP) (Q : cQ) (k n : Nat) (v3 v4 v8 v10 : Int32) : Option (Bool × cN × cC × cE × cF × cP × cQ × (Nat × Nat)) :=
  (fL_reduce fl d N C E F P k n v8 (30 : Int32)).bind fun z24 =>
  match z24 with
  | (r24, N_24, E_24, F_24, P_24, (k_24, n_24)) =>
  if 0 ≤ r24 then
  ((fJ_reduced E_24).bind fun z26 =>
  match z26 with
  | (r26) =>
  (fJ_keep fl d N_24 P_24 k_24 n_24).bind fun z27 =>
  match z27 with
  | (r27, N_27, P_27, (k_27, n_27)) =>
  if 0 ≤ r27 then
  ((fL_check fl d N_27 C E_24 F_24 k_27 n_27 r27 v10 (30 : Int32)).bind fun z29 =>
  match z29 with
  | (r29, N_29, E_29, F_29, (k_29, n_29)) =>
  (fL_same fl d N_29 C E_29 F_29 k_29 n_29 v8 r27 (30 : Int32)).bind fun z30 =>
  match z30 with
  | (r30, N_30, E_30, F_30, (k_30, n_30)) =>
  if r29 = (1 : Int32) then
  (jp_f_law_312 sl xs fl d K N_30 C E_30 F_30 P_27 Q k_30 n_30 v3 v4 v8 r26 r27 r30)
  else
  if r29 ≠ (-3 : Int32) then
  (jp_f_law_343 sl xs fl d K N_30 C E_30 F_30 P_27 Q k_30 n_30)
  else
  jp_f_law_312 sl xs fl d K N_30 C E_30 F_30 P_27 Q k_30 n_30 v3 v4 v8 r26 r27 r30)
  else
  jp_f_law_523 sl xs fl d K N_27 C E_24 F_24 P_27 Q k_27 n_27 v3)
  else
  jp_f_law_523 sl xs fl d K N_24 C E_24 F_24 P_24 Q k_24 n_24 v3
def jp_f_law_145 (sl : Nat) (xs : Nat → Int32) (fl : Nat) (d : Nat) (K : cN → cC → cE → cF → cP → cQ → Nat → Nat → Int32 → Option (Bool × cN × cC × cE × cF × cP × cQ × (Nat × Nat))) (N : cN) (C : cC) (E : cE) (F : cF) (P : cP) (Q : cQ) (k n : Nat) (v3 v4 s0 : Int32) : Option (Bool × cN × cC × cE × cF × cP × cQ × (Nat × Nat)) :=
  if 0 ≤ s0 then
  ((fL_infer fl d N C E F P k n s0 (30 : Int32)).bind fun z15 =>
  match z15 with
  | (r15, N_15, E_15, F_15, P_15, (k_15, n_15)) =>
  if 0 ≤ r15 then
  ((fJ_keep fl d N_15 P_15 k_15 n_15).bind fun z17 =>
  match z17 with
  | (r17, N_17, P_17, (k_17, n_17)) =>
  if 0 ≤ r17 then
  ((fL_infer fl d N_17 C E_15 F_15 P_17 k_17 n_17 r17 (30 : Int32)).bind fun z19 =>
  match z19 with
  | (r19, N_19, E_19, F_19, P_19, (k_19, n_19)) =>
  if r19 = (-2 : Int32) then
  (jp_f_law_239 sl xs fl d K N_19 C E_19 F_19 P_19 Q k_19 n_19)
  else
  if r19 = (-1 : Int32) then
  (jp_f_law_239 sl xs fl d K N_19 C E_19 F_19 P_19 Q k_19 n_19)
  else
  (fL_check fl d N_19 C E_19 F_19 k_19 n_19 s0 r17 (30 : Int32)).bind fun z22 =>
  match z22 with
  | (r22, N_22, E_22, F_22, (k_22, n_22)) =>
  if r22 = (1 : Int32) then
  (jp_f_law_241 sl xs fl d K N_22 C E_22 F_22 P_19 Q k_22 n_22 v3 v4 s0 r17)
  else
  (fL_check fl d N_22 C E_22 F_22 k_22 n_22 s0 r17 (30 : Int32)).bind fun z65 =>
  match z65 with
  | (r65, N_65, E_65, F_65, (k_65, n_65)) =>
  if r65 = (-3 : Int32) then
  (jp_f_law_241 sl xs fl d K N_65 C E_65 F_65 P_19 Q k_65 n_65 v3 v4 s0 r17)
  else
  jp_f_law_239 sl xs fl d K N_65 C E_65 F_65 P_19 Q k_65 n_65)
  else
  jp_f_law_523 sl xs fl d K N_17 C E_15 F_15 P_17 Q k_17 n_17 v3)
  else
  jp_f_law_523 sl xs fl d K N_15 C E_15 F_15 P_15 Q k_15 n_15 v3)
  else
  jp_f_law_523 sl xs fl d K N C E F P Q k n v3
def jp_f_law_128 (sl : Nat) (xs : Nat → Int32) (fl : Nat) (d : Nat) (K : cN → cC → cE → cF → cP → cQ → Nat → Nat → Int32 → Option (Bool × cN × cC × cE × cF × cP × cQ × (Nat × Nat))) (N : cN) (C : cC) (E : cE) (F : cF) (P : cP) (Q : cQ) (k n : Nat) (v3 v4 v5 s0 s1 : Int32) : Option (Bool × cN × cC × cE × cF × cP × cQ × (Nat × Nat)) :=
  (fJ_make N C s1 s0 v5).bind fun z68 =>
  match z68 with
  | (r68, N_68) =>
  jp_f_law_145 sl xs fl d K N_68 C E F P Q k n v3 v4 r68
def lp_f_law_23 (sl : Nat) (xs : Nat → Int32) (fl : Nat) (d : Nat) : Nat → cN → cC → cE → cF → cP → cQ → Nat → Nat → Int32 → Option (Bool × cN × cC × cE × cF × cP × cQ × (Nat × Nat))
  | 0, _, _, _, _, _, _, _, _, _ => none
  | w + 1, N, C, E, F, P, Q, k, n, v3 =>
    if (Int32.ofNat sl) ≤ v3 then
    (jp_f_law_529 sl xs fl d (lp_f_law_23 sl xs fl d w) N C E F P Q k n)
    else
    (fJ_terms N).bind fun z4 =>
    match z4 with
    | (r4) =>
    if (80 : Int32) ≤ r4 then
    (jp_f_law_529 sl xs fl d (lp_f_law_23 sl xs fl d w) N C E F P Q k n)
    else
    if (v3 < 0 ∨ sl ≤ (v3).toNatClampNeg) then none else
    (fJ_terms N).bind fun z7 =>
    match z7 with
    | (r7) =>
    (fL_pick (((xs (v3).toNatClampNeg) >>> ((3 : Int32) &&& 31)) &&& (255 : Int32)) r7).bind fun z8 =>
    match z8 with
    | (r8) =>
    (fJ_terms N).bind fun z9 =>
    match z9 with
    | (r9) =>
    (fL_pick (((xs (v3).toNatClampNeg) >>> ((11 : Int32) &&& 31)) &&& (255 : Int32)) r9).bind fun z10 =>
    match z10 with
    | (r10) =>
    if (6 : Int32) ≤ ((xs (v3).toNatClampNeg) &&& (7 : Int32)) then
    (if ((xs (v3).toNatClampNeg) &&& (7 : Int32)) ≠ (6 : Int32) then
    ((fJ_make N C (2 : Int32) r8 r10).bind fun z13 =>
    match z13 with
    | (r13, N_13) =>
    jp_f_law_145 sl xs fl d (lp_f_law_23 sl xs fl d w) N_13 C E F P Q k n v3 (xs (v3).toNatClampNeg) r13)
    else
    if (((xs (v3).toNatClampNeg) >>> ((19 : Int32) &&& 31)) &&& (1 : Int32)) ≠ 0 then
    (jp_f_law_128 sl xs fl d (lp_f_law_23 sl xs fl d w) N C E F P Q k n v3 (xs (v3).toNatClampNeg) r8 (2 : Int32) (3 : Int32))
    else
    jp_f_law_128 sl xs fl d (lp_f_law_23 sl xs fl d w) N C E F P Q k n v3 (xs (v3).toNatClampNeg) r8 (1 : Int32) (3 : Int32))
    else
    (fJ_make N C (4 : Int32) r8 r10).bind fun z69 =>
    match z69 with
    | (r69, N_69) =>
    jp_f_law_145 sl xs fl d (lp_f_law_23 sl xs fl d w) N_69 C E F P Q k n v3 (xs (v3).toNatClampNeg) r69
def f_law8 (sl : Nat) (xs : Nat → Int32) (fl : Nat) (d : Nat) (N : cN) (C : cC) (E : cE) (F : cF) (P : cP) (Q : cQ) (k n : Nat) : Option (Bool × cN × cC × cE × cF × cP × cQ × (Nat × Nat)) :=
  (fL_world fl d N C E F Q k n).bind fun z1 =>
  match z1 with
  | (r1, N_1, C_1, E_1, F_1, Q_1, (k_1, n_1)) =>
  if r1 = (19 : Int32) then
  (lp_f_law_23 sl xs fl d fl N_1 C_1 E_1 F_1 P Q_1 k_1 n_1 (0 : Int32))
  else
  some (false, N_1, C_1, E_1, F_1, P, Q_1, (k_1, n_1))
set_option maxHeartbeats 4000000 in
set_option maxRecDepth 100000 in
theorem ok_jp_f_law_529 {sl : Nat} {xs : Nat → Int32} {fl d : Nat} {D : Nat} (hD : d + 8 ≤ D) {K : cN → cC → cE → cF → cP → cQ → Nat → Nat → Int32 → Option (Bool × cN × cC × cE × cF × cP × cQ × (Nat × Nat))} (hK : ∀ {N : cN} {C : cC} {E : cE} {F : cF} {P : cP} {Q : cQ} {k n : Nat} {v3 : Int32} {rv : Bool} {N' : cN} {C' : cC} {E' : cE} {F' : cF} {P' : cP} {Q' : cQ} {k' n' : Nat}, K N C E F P Q k n v3 = some (rv, N', C', E', F', P', Q', (k', n')) → am_Ev D 81 (sl + 1) xs (23, [(0, .retAddr 0), (1, .ref 0), (3, .int v3)], [], (W9 N C E F P Q), k, n) (.inl (some (.int (am_bz rv))), W9 N' C' E' F' P' Q', k', n')) : ∀ {N : cN} {C : cC} {E : cE} {F : cF} {P : cP} {Q : cQ} {k n : Nat}  {rv : Bool} {N' : cN} {C' : cC} {E' : cE} {F' : cF} {P' : cP} {Q' : cQ} {k' n' : Nat} (h : jp_f_law_529 sl xs fl d K N C E F P Q k n = some (rv, N', C', E', F', P', Q', (k', n'))), am_Ev D 81 (sl + 1) xs (529, [], [], (W9 N C E F P Q), k, n) (.inl (some (.int (am_bz rv))), W9 N' C' E' F' P' Q', k', n') := by
  intro N C E F P Q k n rv N' C' E' F' P' Q' k' n' h
  unfold jp_f_law_529 at h
  refine am_ev_st 1 (f' := (530, [], [.int (1 : Int32)], (W9 N C E F P Q), k, n)) (g := True ∧ True) (by with_unfolding_all rfl) ⟨trivial, trivial⟩ ?_
  cases h
  exact am_ev_ret 0 0 0 rfl .boolean rfl am_n1 rfl
set_option maxHeartbeats 4000000 in
set_option maxRecDepth 100000 in
theorem ok_jp_f_law_239 {sl : Nat} {xs : Nat → Int32} {fl d : Nat} {D : Nat} (hD : d + 8 ≤ D) {K : cN → cC → cE → cF → cP → cQ → Nat → Nat → Int32 → Option (Bool × cN × cC × cE × cF × cP × cQ × (Nat × Nat))} (hK : ∀ {N : cN} {C : cC} {E : cE} {F : cF} {P : cP} {Q : cQ} {k n : Nat} {v3 : Int32} {rv : Bool} {N' : cN} {C' : cC} {E' : cE} {F' : cF} {P' : cP} {Q' : cQ} {k' n' : Nat}, K N C E F P Q k n v3 = some (rv, N', C', E', F', P', Q', (k', n')) → am_Ev D 81 (sl + 1) xs (23, [(0, .retAddr 0), (1, .ref 0), (3, .int v3)], [], (W9 N C E F P Q), k, n) (.inl (some (.int (am_bz rv))), W9 N' C' E' F' P' Q', k', n')) : ∀ {N : cN} {C : cC} {E : cE} {F : cF} {P : cP} {Q : cQ} {k n : Nat}  {rv : Bool} {N' : cN} {C' : cC} {E' : cE} {F' : cF} {P' : cP} {Q' : cQ} {k' n' : Nat} (h : jp_f_law_239 sl xs fl d K N C E F P Q k n = some (rv, N', C', E', F', P', Q', (k', n'))), am_Ev D 81 (sl + 1) xs (239, [], [], (W9 N C E F P Q), k, n) (.inl (some (.int (am_bz rv))), W9 N' C' E' F' P' Q', k', n') := by
  intro N C E F P Q k n rv N' C' E' F' P' Q' k' n' h
  unfold jp_f_law_239 at h
  refine am_ev_st 1 (f' := (240, [], [.int (0 : Int32)], (W9 N C E F P Q), k, n)) (g := True ∧ True) (by with_unfolding_all rfl) ⟨trivial, trivial⟩ ?_
  cases h
  exact am_ev_ret 0 0 0 rfl .boolean rfl am_n0 rfl
set_option maxHeartbeats 4000000 in
set_option maxRecDepth 100000 in
theorem ok_jp_f_law_343 {sl : Nat} {xs : Nat → Int32} {fl d : Nat} {D : Nat} (hD : d + 8 ≤ D) {K : cN → cC → cE → cF → cP → cQ → Nat → Nat → Int32 → Option (Bool × cN × cC × cE × cF × cP × cQ × (Nat × Nat))} (hK : ∀ {N : cN} {C : cC} {E : cE} {F : cF} {P : cP} {Q : cQ} {k n : Nat} {v3 : Int32} {rv : Bool} {N' : cN} {C' : cC} {E' : cE} {F' : cF} {P' : cP} {Q' : cQ} {k' n' : Nat}, K N C E F P Q k n v3 = some (rv, N', C', E', F', P', Q', (k', n')) → am_Ev D 81 (sl + 1) xs (23, [(0, .retAddr 0), (1, .ref 0), (3, .int v3)], [], (W9 N C E F P Q), k, n) (.inl (some (.int (am_bz rv))), W9 N' C' E' F' P' Q', k', n')) : ∀ {N : cN} {C : cC} {E : cE} {F : cF} {P : cP} {Q : cQ} {k n : Nat}  {rv : Bool} {N' : cN} {C' : cC} {E' : cE} {F' : cF} {P' : cP} {Q' : cQ} {k' n' : Nat} (h : jp_f_law_343 sl xs fl d K N C E F P Q k n = some (rv, N', C', E', F', P', Q', (k', n'))), am_Ev D 81 (sl + 1) xs (343, [], [], (W9 N C E F P Q), k, n) (.inl (some (.int (am_bz rv))), W9 N' C' E' F' P' Q', k', n') := by
  intro N C E F P Q k n rv N' C' E' F' P' Q' k' n' h
  unfold jp_f_law_343 at h
  refine am_ev_st 1 (f' := (344, [], [.int (0 : Int32)], (W9 N C E F P Q), k, n)) (g := True ∧ True) (by with_unfolding_all rfl) ⟨trivial, trivial⟩ ?_
  cases h
  exact am_ev_ret 0 0 0 rfl .boolean rfl am_n0 rfl
set_option maxHeartbeats 4000000 in
set_option maxRecDepth 100000 in
theorem ok_jp_f_law_523 {sl : Nat} {xs : Nat → Int32} {fl d : Nat} {D : Nat} (hD : d + 8 ≤ D) {K : cN → cC → cE → cF → cP → cQ → Nat → Nat → Int32 → Option (Bool × cN × cC × cE × cF × cP × cQ × (Nat × Nat))} (hK : ∀ {N : cN} {C : cC} {E : cE} {F : cF} {P : cP} {Q : cQ} {k n : Nat} {v3 : Int32} {rv : Bool} {N' : cN} {C' : cC} {E' : cE} {F' : cF} {P' : cP} {Q' : cQ} {k' n' : Nat}, K N C E F P Q k n v3 = some (rv, N', C', E', F', P', Q', (k', n')) → am_Ev D 81 (sl + 1) xs (23, [(0, .retAddr 0), (1, .ref 0), (3, .int v3)], [], (W9 N C E F P Q), k, n) (.inl (some (.int (am_bz rv))), W9 N' C' E' F' P' Q', k', n')) : ∀ {N : cN} {C : cC} {E : cE} {F : cF} {P : cP} {Q : cQ} {k n : Nat} {v3 : Int32} {rv : Bool} {N' : cN} {C' : cC} {E' : cE} {F' : cF} {P' : cP} {Q' : cQ} {k' n' : Nat} (h : jp_f_law_523 sl xs fl d K N C E F P Q k n v3 = some (rv, N', C', E', F', P', Q', (k', n'))), am_Ev D 81 (sl + 1) xs (523, [(0, .retAddr 0), (1, .ref 0), (3, .int v3)], [], (W9 N C E F P Q), k, n) (.inl (some (.int (am_bz rv))), W9 N' C' E' F' P' Q', k', n') := by
  intro N C E F P Q k n v3 rv N' C' E' F' P' Q' k' n' h
  unfold jp_f_law_523 at h
  refine am_ev_st 2 (f' := (23, [(3, .int (v3 + (1 : Int32))), (0, .retAddr 0), (1, .ref 0)], [], (W9 N C E F P Q), k, n)) (g := True ∧ True ∧ True) (by with_unfolding_all rfl) ⟨trivial, trivial, trivial⟩ ?_
  refine am_ev_drop [1, 2, 0] rfl rfl ?_
  exact hK h
set_option maxHeartbeats 4000000 in
set_option maxRecDepth 100000 in
theorem ok_jp_f_law_410 {sl : Nat} {xs : Nat → Int32} {fl d : Nat} {D : Nat} (hD : d + 8 ≤ D) {K : cN → cC → cE → cF → cP → cQ → Nat → Nat → Int32 → Option (Bool × cN × cC × cE × cF × cP × cQ × (Nat × Nat))} (hK : ∀ {N : cN} {C : cC} {E : cE} {F : cF} {P : cP} {Q : cQ} {k n : Nat} {v3 : Int32} {rv : Bool} {N' : cN} {C' : cC} {E' : cE} {F' : cF} {P' : cP} {Q' : cQ} {k' n' : Nat}, K N C E F P Q k n v3 = some (rv, N', C', E', F', P', Q', (k', n')) → am_Ev D 81 (sl + 1) xs (23, [(0, .retAddr 0), (1, .ref 0), (3, .int v3)], [], (W9 N C E F P Q), k, n) (.inl (some (.int (am_bz rv))), W9 N' C' E' F' P' Q', k', n')) : ∀ {N : cN} {C : cC} {E : cE} {F : cF} {P : cP} {Q : cQ} {k n : Nat}  {rv : Bool} {N' : cN} {C' : cC} {E' : cE} {F' : cF} {P' : cP} {Q' : cQ} {k' n' : Nat} (h : jp_f_law_410 sl xs fl d K N C E F P Q k n = some (rv, N', C', E', F', P', Q', (k', n'))), am_Ev D 81 (sl + 1) xs (410, [], [], (W9 N C E F P Q), k, n) (.inl (some (.int (am_bz rv))), W9 N' C' E' F' P' Q', k', n') := by
  intro N C E F P Q k n rv N' C' E' F' P' Q' k' n' h
  unfold jp_f_law_410 at h
  refine am_ev_st 1 (f' := (411, [], [.int (0 : Int32)], (W9 N C E F P Q), k, n)) (g := True ∧ True) (by with_unfolding_all rfl) ⟨trivial, trivial⟩ ?_
  cases h
  exact am_ev_ret 0 0 0 rfl .boolean rfl am_n0 rfl
set_option maxHeartbeats 4000000 in
set_option maxRecDepth 100000 in
theorem ok_jp_f_law_521 {sl : Nat} {xs : Nat → Int32} {fl d : Nat} {D : Nat} (hD : d + 8 ≤ D) {K : cN → cC → cE → cF → cP → cQ → Nat → Nat → Int32 → Option (Bool × cN × cC × cE × cF × cP × cQ × (Nat × Nat))} (hK : ∀ {N : cN} {C : cC} {E : cE} {F : cF} {P : cP} {Q : cQ} {k n : Nat} {v3 : Int32} {rv : Bool} {N' : cN} {C' : cC} {E' : cE} {F' : cF} {P' : cP} {Q' : cQ} {k' n' : Nat}, K N C E F P Q k n v3 = some (rv, N', C', E', F', P', Q', (k', n')) → am_Ev D 81 (sl + 1) xs (23, [(0, .retAddr 0), (1, .ref 0), (3, .int v3)], [], (W9 N C E F P Q), k, n) (.inl (some (.int (am_bz rv))), W9 N' C' E' F' P' Q', k', n')) : ∀ {N : cN} {C : cC} {E : cE} {F : cF} {P : cP} {Q : cQ} {k n : Nat}  {rv : Bool} {N' : cN} {C' : cC} {E' : cE} {F' : cF} {P' : cP} {Q' : cQ} {k' n' : Nat} (h : jp_f_law_521 sl xs fl d K N C E F P Q k n = some (rv, N', C', E', F', P', Q', (k', n'))), am_Ev D 81 (sl + 1) xs (521, [], [], (W9 N C E F P Q), k, n) (.inl (some (.int (am_bz rv))), W9 N' C' E' F' P' Q', k', n') := by
  intro N C E F P Q k n rv N' C' E' F' P' Q' k' n' h
  unfold jp_f_law_521 at h
  refine am_ev_st 1 (f' := (522, [], [.int (0 : Int32)], (W9 N C E F P Q), k, n)) (g := True ∧ True) (by with_unfolding_all rfl) ⟨trivial, trivial⟩ ?_
  cases h
  exact am_ev_ret 0 0 0 rfl .boolean rfl am_n0 rfl
set_option maxHeartbeats 4000000 in
set_option maxRecDepth 100000 in
theorem ok_jp_f_law_465 {sl : Nat} {xs : Nat → Int32} {fl d : Nat} {D : Nat} (hD : d + 8 ≤ D) {K : cN → cC → cE → cF → cP → cQ → Nat → Nat → Int32 → Option (Bool × cN × cC × cE × cF × cP × cQ × (Nat × Nat))} (hK : ∀ {N : cN} {C : cC} {E : cE} {F : cF} {P : cP} {Q : cQ} {k n : Nat} {v3 : Int32} {rv : Bool} {N' : cN} {C' : cC} {E' : cE} {F' : cF} {P' : cP} {Q' : cQ} {k' n' : Nat}, K N C E F P Q k n v3 = some (rv, N', C', E', F', P', Q', (k', n')) → am_Ev D 81 (sl + 1) xs (23, [(0, .retAddr 0), (1, .ref 0), (3, .int v3)], [], (W9 N C E F P Q), k, n) (.inl (some (.int (am_bz rv))), W9 N' C' E' F' P' Q', k', n')) : ∀ {N : cN} {C : cC} {E : cE} {F : cF} {P : cP} {Q : cQ} {k n : Nat} {v3 : Int32} {v12 : Int32} {v16 : Int32} {v17 : Int32} {rv : Bool} {N' : cN} {C' : cC} {E' : cE} {F' : cF} {P' : cP} {Q' : cQ} {k' n' : Nat} (h : jp_f_law_465 sl xs fl d K N C E F P Q k n v3 v12 v16 v17 = some (rv, N', C', E', F', P', Q', (k', n'))), am_Ev D 81 (sl + 1) xs (465, [(0, .retAddr 0), (1, .ref 0), (3, .int v3), (12, .int v12), (16, .int v16), (17, .int v17)], [], (W9 N C E F P Q), k, n) (.inl (some (.int (am_bz rv))), W9 N' C' E' F' P' Q', k', n') := by
  intro N C E F P Q k n v3 v12 v16 v17 rv N' C' E' F' P' Q' k' n' h
  unfold jp_f_law_465 at h
  refine am_ev_st 2 (f' := (468, [(0, .retAddr 0), (1, .ref 0), (3, .int v3), (12, .int v12), (16, .int v16), (17, .int v17)], [.int v16, .ref 0], (W9 N C E F P Q), k, n)) (g := True ∧ True ∧ True) (by with_unfolding_all rfl) ⟨trivial, trivial, trivial⟩ ?_
  replace h := Option.bind_eq_some_iff.mp h
  obtain ⟨⟨r51, P_51⟩, hc51, h⟩ := h
  try dsimp only at h
  refine am_ev_call (.invokevirtual 80) 66 2 244 [.ref 0, .int v16] [] rfl rfl rfl rfl (ok_fJ_typeOf hc51 D (by omega)) rfl ?_
  refine am_ev_st 2 (f' := am_br (r51 < (1 : Int32)) 521 472 [(0, .retAddr 0), (1, .ref 0), (3, .int v3), (12, .int v12), (16, .int v16), (17, .int v17)] [] (W9 N C E F P_51 Q) k n) (g := True ∧ True ∧ True) (by with_unfolding_all rfl) ⟨trivial, trivial, trivial⟩ ?_
  by_cases c52 : r51 < (1 : Int32)
  · rw [if_pos c52] at h
    refine am_ev_pos c52 ?_
    refine am_ev_drop [] rfl rfl ?_
    exact ok_jp_f_law_521 hD hK h
  · rw [if_neg c52] at h
    refine am_ev_neg c52 ?_
    refine am_ev_st 2 (f' := am_br (v17 < 0) 523 477 [(0, .retAddr 0), (1, .ref 0), (3, .int v3), (12, .int v12), (16, .int v16), (17, .int v17)] [] (W9 N C E F P_51 Q) k n) (g := True ∧ True ∧ True) (by with_unfolding_all rfl) ⟨trivial, trivial, trivial⟩ ?_
    by_cases c53 : v17 < 0
    · rw [if_pos c53] at h
      refine am_ev_pos c53 ?_
      refine am_ev_drop [0, 1, 2] rfl rfl ?_
      exact ok_jp_f_law_523 hD hK h
    · rw [if_neg c53] at h
      refine am_ev_neg c53 ?_
      refine am_ev_st 3 (f' := (484, [(0, .retAddr 0), (1, .ref 0), (3, .int v3), (12, .int v12), (16, .int v16), (17, .int v17)], [.int (0 : Int32), .int v17, .ref 0], (W9 N C E F P_51 Q), k, n)) (g := True ∧ True ∧ True ∧ True) (by with_unfolding_all rfl) ⟨trivial, trivial, trivial, trivial⟩ ?_
      replace h := Option.bind_eq_some_iff.mp h
      obtain ⟨⟨r54, N_54, E_54, F_54, P_54, ⟨k_54, n_54⟩⟩, hc54, h⟩ := h
      try dsimp only at h
      refine am_ev_call (.invokestatic 66) 75 6 573 [.ref 0, .int v17, .int (0 : Int32)] [] rfl rfl rfl rfl (ok_fL_reduce hc54 D (by omega)) rfl ?_
      refine am_ev_st 2 (f' := am_br (r54 ≠ (-3 : Int32)) 521 489 [(0, .retAddr 0), (1, .ref 0), (3, .int v3), (12, .int v12), (16, .int v16), (17, .int v17)] [] (W9 N_54 C E_54 F_54 P_54 Q) k_54 n_54) (g := True ∧ True ∧ True) (by with_unfolding_all rfl) ⟨trivial, trivial, trivial⟩ ?_
      by_cases c55 : r54 ≠ (-3 : Int32)
      · rw [if_pos c55] at h
        refine am_ev_pos c55 ?_
        refine am_ev_drop [] rfl rfl ?_
        exact ok_jp_f_law_521 hD hK h
      · rw [if_neg c55] at h
        refine am_ev_neg c55 ?_
        refine am_ev_st 3 (f' := (497, [(0, .retAddr 0), (1, .ref 0), (3, .int v3), (12, .int v12), (16, .int v16), (17, .int v17)], [.int (30 : Int32), .int v17, .ref 0], (W9 N_54 C E_54 F_54 P_54 Q), k_54, n_54)) (g := True ∧ True ∧ True ∧ True) (by with_unfolding_all rfl) ⟨trivial, trivial, trivial, trivial⟩ ?_
        replace h := Option.bind_eq_some_iff.mp h
        obtain ⟨⟨r56, N_56, E_56, F_56, P_56, ⟨k_56, n_56⟩⟩, hc56, h⟩ := h
        try dsimp only at h
        refine am_ev_call (.invokestatic 66) 75 6 573 [.ref 0, .int v17, .int (30 : Int32)] [] rfl rfl rfl rfl (ok_fL_reduce hc56 D (by omega)) rfl ?_
        refine am_ev_st 1 (f' := am_br (r56 < 0) 523 500 [(0, .retAddr 0), (1, .ref 0), (3, .int v3), (12, .int v12), (16, .int v16), (17, .int v17)] [] (W9 N_56 C E_56 F_56 P_56 Q) k_56 n_56) (g := True ∧ True) (by with_unfolding_all rfl) ⟨trivial, trivial⟩ ?_
        by_cases c57 : r56 < 0
        · rw [if_pos c57] at h
          refine am_ev_pos c57 ?_
          refine am_ev_drop [0, 1, 2] rfl rfl ?_
          exact ok_jp_f_law_523 hD hK h
        · rw [if_neg c57] at h
          refine am_ev_neg c57 ?_
          refine am_ev_st 3 (f' := am_br ((30 : Int32) ≤ v12) 523 507 [(0, .retAddr 0), (1, .ref 0), (3, .int v3), (12, .int v12), (16, .int v16), (17, .int v17)] [] (W9 N_56 C E_56 F_56 P_56 Q) k_56 n_56) (g := True ∧ True ∧ True ∧ True) (by with_unfolding_all rfl) ⟨trivial, trivial, trivial, trivial⟩ ?_
          by_cases c58 : (30 : Int32) ≤ v12
          · rw [if_pos c58] at h
            refine am_ev_pos c58 ?_
            refine am_ev_drop [0, 1, 2] rfl rfl ?_
            exact ok_jp_f_law_523 hD hK h
          · rw [if_neg c58] at h
            refine am_ev_neg c58 ?_
            refine am_ev_st 1 (f' := (511, [(0, .retAddr 0), (1, .ref 0), (3, .int v3), (12, .int v12), (16, .int v16), (17, .int v17)], [.ref 0], (W9 N_56 C E_56 F_56 P_56 Q), k_56, n_56)) (g := True ∧ True) (by with_unfolding_all rfl) ⟨trivial, trivial⟩ ?_
            replace h := Option.bind_eq_some_iff.mp h
            obtain ⟨r59, hc59, h⟩ := h
            try dsimp only at h
            refine am_ev_call (.invokevirtual 68) 68 0 402 [.ref 0] [] rfl rfl rfl rfl (ok_fJ_reduced hc59 D (by omega)) rfl ?_
            refine am_ev_st 4 (f' := am_br (r59 = (v12 + (1 : Int32))) 523 518 [(0, .retAddr 0), (1, .ref 0), (3, .int v3), (12, .int v12), (16, .int v16), (17, .int v17)] [] (W9 N_56 C E_56 F_56 P_56 Q) k_56 n_56) (g := True ∧ True ∧ True ∧ True ∧ True) (by with_unfolding_all rfl) ⟨trivial, trivial, trivial, trivial, trivial⟩ ?_
            by_cases c60 : r59 = (v12 + (1 : Int32))
            · rw [if_pos c60] at h
              refine am_ev_pos c60 ?_
              refine am_ev_drop [0, 1, 2] rfl rfl ?_
              exact ok_jp_f_law_523 hD hK h
            · rw [if_neg c60] at h
              refine am_ev_neg c60 ?_
              refine am_ev_drop [] rfl rfl ?_
              exact ok_jp_f_law_521 hD hK h
set_option maxHeartbeats 4000000 in
set_option maxRecDepth 100000 in
theorem ok_jp_f_law_450 {sl : Nat} {xs : Nat → Int32} {fl d : Nat} {D : Nat} (hD : d + 8 ≤ D) {K : cN → cC → cE → cF → cP → cQ → Nat → Nat → Int32 → Option (Bool × cN × cC × cE × cF × cP × cQ × (Nat × Nat))} (hK : ∀ {N : cN} {C : cC} {E : cE} {F : cF} {P : cP} {Q : cQ} {k n : Nat} {v3 : Int32} {rv : Bool} {N' : cN} {C' : cC} {E' : cE} {F' : cF} {P' : cP} {Q' : cQ} {k' n' : Nat}, K N C E F P Q k n v3 = some (rv, N', C', E', F', P', Q', (k', n')) → am_Ev D 81 (sl + 1) xs (23, [(0, .retAddr 0), (1, .ref 0), (3, .int v3)], [], (W9 N C E F P Q), k, n) (.inl (some (.int (am_bz rv))), W9 N' C' E' F' P' Q', k', n')) : ∀ {N : cN} {C : cC} {E : cE} {F : cF} {P : cP} {Q : cQ} {k n : Nat} {v3 : Int32} {v12 : Int32} {v16 : Int32} {v17 : Int32} {s0 : Int32} {rv : Bool} {N' : cN} {C' : cC} {E' : cE} {F' : cF} {P' : cP} {Q' : cQ} {k' n' : Nat} (h : jp_f_law_450 sl xs fl d K N C E F P Q k n v3 v12 v16 v17 s0 = some (rv, N', C', E', F', P', Q', (k', n'))), am_Ev D 81 (sl + 1) xs (450, [(0, .retAddr 0), (1, .ref 0), (3, .int v3), (12, .int v12), (16, .int v16), (17, .int v17)], [.int s0], (W9 N C E F P Q), k, n) (.inl (some (.int (am_bz rv))), W9 N' C' E' F' P' Q', k', n') := by
  intro N C E F P Q k n v3 v12 v16 v17 s0 rv N' C' E' F' P' Q' k' n' h
  unfold jp_f_law_450 at h
  refine am_ev_st 4 (f' := am_br (s0 = (1 : Int32)) 465 455 [(18, .int s0), (0, .retAddr 0), (1, .ref 0), (3, .int v3), (12, .int v12), (16, .int v16), (17, .int v17)] [] (W9 N C E F P Q) k n) (g := True ∧ True ∧ True ∧ True ∧ True) (by with_unfolding_all rfl) ⟨trivial, trivial, trivial, trivial, trivial⟩ ?_
  by_cases c50 : s0 = (1 : Int32)
  · rw [if_pos c50] at h
    refine am_ev_pos c50 ?_
    refine am_ev_drop [1, 2, 3, 4, 5, 6] rfl rfl ?_
    exact ok_jp_f_law_465 hD hK h
  · rw [if_neg c50] at h
    refine am_ev_neg c50 ?_
    refine am_ev_st 3 (f' := am_br (s0 ≠ (-3 : Int32)) 521 462 [(18, .int s0), (0, .retAddr 0), (1, .ref 0), (3, .int v3), (12, .int v12), (16, .int v16), (17, .int v17)] [] (W9 N C E F P Q) k n) (g := True ∧ True ∧ True ∧ True) (by with_unfolding_all rfl) ⟨trivial, trivial, trivial, trivial⟩ ?_
    by_cases c61 : s0 ≠ (-3 : Int32)
    · rw [if_pos c61] at h
      refine am_ev_pos c61 ?_
      refine am_ev_drop [] rfl rfl ?_
      exact ok_jp_f_law_521 hD hK h
    · rw [if_neg c61] at h
      refine am_ev_neg c61 ?_
      refine am_ev_drop [1, 2, 3, 4, 5, 6] rfl rfl ?_
      exact ok_jp_f_law_465 hD hK h
set_option maxHeartbeats 4000000 in
set_option maxRecDepth 100000 in
theorem ok_jp_f_law_412 {sl : Nat} {xs : Nat → Int32} {fl d : Nat} {D : Nat} (hD : d + 8 ≤ D) {K : cN → cC → cE → cF → cP → cQ → Nat → Nat → Int32 → Option (Bool × cN × cC × cE × cF × cP × cQ × (Nat × Nat))} (hK : ∀ {N : cN} {C : cC} {E : cE} {F : cF} {P : cP} {Q : cQ} {k n : Nat} {v3 : Int32} {rv : Bool} {N' : cN} {C' : cC} {E' : cE} {F' : cF} {P' : cP} {Q' : cQ} {k' n' : Nat}, K N C E F P Q k n v3 = some (rv, N', C', E', F', P', Q', (k', n')) → am_Ev D 81 (sl + 1) xs (23, [(0, .retAddr 0), (1, .ref 0), (3, .int v3)], [], (W9 N C E F P Q), k, n) (.inl (some (.int (am_bz rv))), W9 N' C' E' F' P' Q', k', n')) : ∀ {N : cN} {C : cC} {E : cE} {F : cF} {P : cP} {Q : cQ} {k n : Nat} {v3 : Int32} {v8 : Int32} {v12 : Int32} {v16 : Int32} {rv : Bool} {N' : cN} {C' : cC} {E' : cE} {F' : cF} {P' : cP} {Q' : cQ} {k' n' : Nat} (h : jp_f_law_412 sl xs fl d K N C E F P Q k n v3 v8 v12 v16 = some (rv, N', C', E', F', P', Q', (k', n'))), am_Ev D 81 (sl + 1) xs (412, [(0, .retAddr 0), (1, .ref 0), (3, .int v3), (8, .int v8), (12, .int v12), (16, .int v16)], [], (W9 N C E F P Q), k, n) (.inl (some (.int (am_bz rv))), W9 N' C' E' F' P' Q', k', n') := by
  intro N C E F P Q k n v3 v8 v12 v16 rv N' C' E' F' P' Q' k' n' h
  unfold jp_f_law_412 at h
  refine am_ev_st 2 (f' := am_br (0 ≤ v16) 420 414 [(0, .retAddr 0), (1, .ref 0), (3, .int v3), (8, .int v8), (12, .int v12), (16, .int v16)] [] (W9 N C E F P Q) k n) (g := True ∧ True ∧ True) (by with_unfolding_all rfl) ⟨trivial, trivial, trivial⟩ ?_
  by_cases c46 : 0 ≤ v16
  · rw [if_pos c46] at h
    refine am_ev_pos c46 ?_
    refine am_ev_st 4 (f' := (425, [(0, .retAddr 0), (1, .ref 0), (3, .int v3), (8, .int v8), (12, .int v12), (16, .int v16)], [.int (0 : Int32), .int v16, .int (5 : Int32), .ref 0], (W9 N C E F P Q), k, n)) (g := True ∧ True ∧ True ∧ True ∧ True) (by with_unfolding_all rfl) ⟨trivial, trivial, trivial, trivial, trivial⟩ ?_
    replace h := Option.bind_eq_some_iff.mp h
    obtain ⟨⟨r47, N_47⟩, hc47, h⟩ := h
    try dsimp only at h
    refine am_ev_call (.invokevirtual 35) 56 6 177 [.ref 0, .int (5 : Int32), .int v16, .int (0 : Int32)] [] rfl rfl rfl rfl (ok_fJ_make hc47 D (by omega)) rfl ?_
    refine am_ev_st 3 (f' := am_br (0 ≤ r47) 440 432 [(17, .int r47), (0, .retAddr 0), (1, .ref 0), (3, .int v3), (8, .int v8), (12, .int v12), (16, .int v16)] [] (W9 N_47 C E F P Q) k n) (g := True ∧ True ∧ True ∧ True) (by with_unfolding_all rfl) ⟨trivial, trivial, trivial, trivial⟩ ?_
    by_cases c48 : 0 ≤ r47
    · rw [if_pos c48] at h
      refine am_ev_pos c48 ?_
      refine am_ev_st 4 (f' := (447, [(17, .int r47), (0, .retAddr 0), (1, .ref 0), (3, .int v3), (8, .int v8), (12, .int v12), (16, .int v16)], [.int (30 : Int32), .int v8, .int r47, .ref 0], (W9 N_47 C E F P Q), k, n)) (g := True ∧ True ∧ True ∧ True ∧ True) (by with_unfolding_all rfl) ⟨trivial, trivial, trivial, trivial, trivial⟩ ?_
      replace h := Option.bind_eq_some_iff.mp h
      obtain ⟨⟨r49, N_49, E_49, F_49, ⟨k_49, n_49⟩⟩, hc49, h⟩ := h
      try dsimp only at h
      refine am_ev_call (.invokestatic 71) 76 8 581 [.ref 0, .int r47, .int v8, .int (30 : Int32)] [] rfl rfl rfl rfl (ok_fL_same hc49 D (by omega)) rfl ?_
      refine am_ev_drop [1, 2, 3, 5, 6, 0] rfl rfl ?_
      exact ok_jp_f_law_450 hD hK h
    · rw [if_neg c48] at h
      refine am_ev_neg c48 ?_
      refine am_ev_st 2 (f' := (450, [(17, .int r47), (0, .retAddr 0), (1, .ref 0), (3, .int v3), (8, .int v8), (12, .int v12), (16, .int v16)], [.int (-3 : Int32)], (W9 N_47 C E F P Q), k, n)) (g := True ∧ True ∧ True) (by with_unfolding_all rfl) ⟨trivial, trivial, trivial⟩ ?_
      refine am_ev_drop [1, 2, 3, 5, 6, 0] rfl rfl ?_
      exact ok_jp_f_law_450 hD hK h
  · rw [if_neg c46] at h
    refine am_ev_neg c46 ?_
    refine am_ev_st 1 (f' := (523, [(0, .retAddr 0), (1, .ref 0), (3, .int v3), (8, .int v8), (12, .int v12), (16, .int v16)], [], (W9 N C E F P Q), k, n)) (g := True ∧ True) (by with_unfolding_all rfl) ⟨trivial, trivial⟩ ?_
    refine am_ev_drop [0, 1, 2] rfl rfl ?_
    exact ok_jp_f_law_523 hD hK h
set_option maxHeartbeats 4000000 in
set_option maxRecDepth 100000 in
theorem ok_jp_f_law_325 {sl : Nat} {xs : Nat → Int32} {fl d : Nat} {D : Nat} (hD : d + 8 ≤ D) {K : cN → cC → cE → cF → cP → cQ → Nat → Nat → Int32 → Option (Bool × cN × cC × cE × cF × cP × cQ × (Nat × Nat))} (hK : ∀ {N : cN} {C : cC} {E : cE} {F : cF} {P : cP} {Q : cQ} {k n : Nat} {v3 : Int32} {rv : Bool} {N' : cN} {C' : cC} {E' : cE} {F' : cF} {P' : cP} {Q' : cQ} {k' n' : Nat}, K N C E F P Q k n v3 = some (rv, N', C', E', F', P', Q', (k', n')) → am_Ev D 81 (sl + 1) xs (23, [(0, .retAddr 0), (1, .ref 0), (3, .int v3)], [], (W9 N C E F P Q), k, n) (.inl (some (.int (am_bz rv))), W9 N' C' E' F' P' Q', k', n')) : ∀ {N : cN} {C : cC} {E : cE} {F : cF} {P : cP} {Q : cQ} {k n : Nat} {v3 : Int32} {v4 : Int32} {v8 : Int32} {v12 : Int32} {v13 : Int32} {rv : Bool} {N' : cN} {C' : cC} {E' : cE} {F' : cF} {P' : cP} {Q' : cQ} {k' n' : Nat} (h : jp_f_law_325 sl xs fl d K N C E F P Q k n v3 v4 v8 v12 v13 = some (rv, N', C', E', F', P', Q', (k', n'))), am_Ev D 81 (sl + 1) xs (325, [(0, .retAddr 0), (1, .ref 0), (3, .int v3), (4, .int v4), (8, .int v8), (12, .int v12), (13, .int v13)], [], (W9 N C E F P Q), k, n) (.inl (some (.int (am_bz rv))), W9 N' C' E' F' P' Q', k', n') := by
  intro N C E F P Q k n v3 v4 v8 v12 v13 rv N' C' E' F' P' Q' k' n' h
  unfold jp_f_law_325 at h
  refine am_ev_st 3 (f' := (329, [(0, .retAddr 0), (1, .ref 0), (3, .int v3), (4, .int v4), (8, .int v8), (12, .int v12), (13, .int v13)], [.int (0 : Int32), .int v13, .ref 0], (W9 N C E F P Q), k, n)) (g := True ∧ True ∧ True ∧ True) (by with_unfolding_all rfl) ⟨trivial, trivial, trivial, trivial⟩ ?_
  replace h := Option.bind_eq_some_iff.mp h
  obtain ⟨⟨r33, N_33, E_33, F_33, P_33, ⟨k_33, n_33⟩⟩, hc33, h⟩ := h
  try dsimp only at h
  refine am_ev_call (.invokestatic 66) 75 6 573 [.ref 0, .int v13, .int (0 : Int32)] [] rfl rfl rfl rfl (ok_fL_reduce hc33 D (by omega)) rfl ?_
  refine am_ev_st 2 (f' := am_br (r33 < (1 : Int32)) 343 333 [(0, .retAddr 0), (1, .ref 0), (3, .int v3), (4, .int v4), (8, .int v8), (12, .int v12), (13, .int v13)] [] (W9 N_33 C E_33 F_33 P_33 Q) k_33 n_33) (g := True ∧ True ∧ True) (by with_unfolding_all rfl) ⟨trivial, trivial, trivial⟩ ?_
  by_cases c34 : r33 < (1 : Int32)
  · rw [if_pos c34] at h
    refine am_ev_pos c34 ?_
    refine am_ev_drop [] rfl rfl ?_
    exact ok_jp_f_law_343 hD hK h
  · rw [if_neg c34] at h
    refine am_ev_neg c34 ?_
    refine am_ev_st 1 (f' := (337, [(0, .retAddr 0), (1, .ref 0), (3, .int v3), (4, .int v4), (8, .int v8), (12, .int v12), (13, .int v13)], [.ref 0], (W9 N_33 C E_33 F_33 P_33 Q), k_33, n_33)) (g := True ∧ True) (by with_unfolding_all rfl) ⟨trivial, trivial⟩ ?_
    replace h := Option.bind_eq_some_iff.mp h
    obtain ⟨r35, hc35, h⟩ := h
    try dsimp only at h
    refine am_ev_call (.invokevirtual 68) 68 0 402 [.ref 0] [] rfl rfl rfl rfl (ok_fJ_reduced hc35 D (by omega)) rfl ?_
    refine am_ev_st 1 (f' := am_br (r35 = 0) 345 340 [(0, .retAddr 0), (1, .ref 0), (3, .int v3), (4, .int v4), (8, .int v8), (12, .int v12), (13, .int v13)] [] (W9 N_33 C E_33 F_33 P_33 Q) k_33 n_33) (g := True ∧ True) (by with_unfolding_all rfl) ⟨trivial, trivial⟩ ?_
    by_cases c36 : r35 = 0
    · rw [if_pos c36] at h
      refine am_ev_pos c36 ?_
      refine am_ev_st 6 (f' := am_br (((v4 >>> ((20 : Int32) &&& 31)) &&& (7 : Int32)) ≠ 0) 523 353 [(0, .retAddr 0), (1, .ref 0), (3, .int v3), (4, .int v4), (8, .int v8), (12, .int v12), (13, .int v13)] [] (W9 N_33 C E_33 F_33 P_33 Q) k_33 n_33) (g := True ∧ True ∧ True ∧ True ∧ True ∧ True ∧ True) (by with_unfolding_all rfl) ⟨trivial, trivial, trivial, trivial, trivial, trivial, trivial⟩ ?_
      by_cases c37 : ((v4 >>> ((20 : Int32) &&& 31)) &&& (7 : Int32)) ≠ 0
      · rw [if_pos c37] at h
        refine am_ev_pos c37 ?_
        refine am_ev_drop [0, 1, 2] rfl rfl ?_
        exact ok_jp_f_law_523 hD hK h
      · rw [if_neg c37] at h
        refine am_ev_neg c37 ?_
        refine am_ev_st 1 (f' := (357, [(0, .retAddr 0), (1, .ref 0), (3, .int v3), (4, .int v4), (8, .int v8), (12, .int v12), (13, .int v13)], [.ref 0], (W9 N_33 C E_33 F_33 P_33 Q), k_33, n_33)) (g := True ∧ True) (by with_unfolding_all rfl) ⟨trivial, trivial⟩ ?_
        replace h := Option.bind_eq_some_iff.mp h
        obtain ⟨r38, hc38, h⟩ := h
        try dsimp only at h
        refine am_ev_call (.invokevirtual 73) 64 0 227 [.ref 0] [] rfl rfl rfl rfl (ok_fJ_constants hc38 D (by omega)) rfl ?_
        refine am_ev_st 2 (f' := am_br ((9 : Int32) ≤ r38) 523 362 [(0, .retAddr 0), (1, .ref 0), (3, .int v3), (4, .int v4), (8, .int v8), (12, .int v12), (13, .int v13)] [] (W9 N_33 C E_33 F_33 P_33 Q) k_33 n_33) (g := True ∧ True ∧ True) (by with_unfolding_all rfl) ⟨trivial, trivial, trivial⟩ ?_
        by_cases c39 : (9 : Int32) ≤ r38
        · rw [if_pos c39] at h
          refine am_ev_pos c39 ?_
          refine am_ev_drop [0, 1, 2] rfl rfl ?_
          exact ok_jp_f_law_523 hD hK h
        · rw [if_neg c39] at h
          refine am_ev_neg c39 ?_
          refine am_ev_st 3 (f' := (370, [(0, .retAddr 0), (1, .ref 0), (3, .int v3), (4, .int v4), (8, .int v8), (12, .int v12), (13, .int v13)], [.int (30 : Int32), .int v8, .ref 0], (W9 N_33 C E_33 F_33 P_33 Q), k_33, n_33)) (g := True ∧ True ∧ True ∧ True) (by with_unfolding_all rfl) ⟨trivial, trivial, trivial, trivial⟩ ?_
          replace h := Option.bind_eq_some_iff.mp h
          obtain ⟨⟨r40, N_40, C_40, E_40, F_40, Q_40, ⟨k_40, n_40⟩⟩, hc40, h⟩ := h
          try dsimp only at h
          refine am_ev_call (.invokestatic 44) 79 6 597 [.ref 0, .int v8, .int (30 : Int32)] [] rfl rfl rfl rfl (ok_fL_define hc40 D (by omega)) rfl ?_
          refine am_ev_st 3 (f' := am_br (0 ≤ r40) 390 377 [(16, .int r40), (0, .retAddr 0), (1, .ref 0), (3, .int v3), (4, .int v4), (8, .int v8), (12, .int v12), (13, .int v13)] [] (W9 N_40 C_40 E_40 F_40 P_33 Q_40) k_40 n_40) (g := True ∧ True ∧ True ∧ True) (by with_unfolding_all rfl) ⟨trivial, trivial, trivial, trivial⟩ ?_
          by_cases c41 : 0 ≤ r40
          · rw [if_pos c41] at h
            refine am_ev_pos c41 ?_
            refine am_ev_st 2 (f' := (393, [(16, .int r40), (0, .retAddr 0), (1, .ref 0), (3, .int v3), (4, .int v4), (8, .int v8), (12, .int v12), (13, .int v13)], [.ref 0, .int r40], (W9 N_40 C_40 E_40 F_40 P_33 Q_40), k_40, n_40)) (g := True ∧ True ∧ True) (by with_unfolding_all rfl) ⟨trivial, trivial, trivial⟩ ?_
            replace h := Option.bind_eq_some_iff.mp h
            obtain ⟨r42, hc42, h⟩ := h
            try dsimp only at h
            refine am_ev_call (.invokevirtual 73) 64 0 227 [.ref 0] [.int r40] rfl rfl rfl rfl (ok_fJ_constants hc42 D (by omega)) rfl ?_
            refine am_ev_st 3 (f' := am_br (r40 ≠ (r42 - (1 : Int32))) 410 398 [(16, .int r40), (0, .retAddr 0), (1, .ref 0), (3, .int v3), (4, .int v4), (8, .int v8), (12, .int v12), (13, .int v13)] [] (W9 N_40 C_40 E_40 F_40 P_33 Q_40) k_40 n_40) (g := True ∧ True ∧ True ∧ True) (by with_unfolding_all rfl) ⟨trivial, trivial, trivial, trivial⟩ ?_
            by_cases c43 : r40 ≠ (r42 - (1 : Int32))
            · rw [if_pos c43] at h
              refine am_ev_pos c43 ?_
              refine am_ev_drop [] rfl rfl ?_
              exact ok_jp_f_law_410 hD hK h
            · rw [if_neg c43] at h
              refine am_ev_neg c43 ?_
              refine am_ev_st 2 (f' := (404, [(16, .int r40), (0, .retAddr 0), (1, .ref 0), (3, .int v3), (4, .int v4), (8, .int v8), (12, .int v12), (13, .int v13)], [.int r40, .ref 0], (W9 N_40 C_40 E_40 F_40 P_33 Q_40), k_40, n_40)) (g := True ∧ True ∧ True) (by with_unfolding_all rfl) ⟨trivial, trivial, trivial⟩ ?_
              replace h := Option.bind_eq_some_iff.mp h
              obtain ⟨r44, hc44, h⟩ := h
              try dsimp only at h
              refine am_ev_call (.invokevirtual 76) 65 2 235 [.ref 0, .int r40] [] rfl rfl rfl rfl (ok_fJ_hasBody hc44 D (by omega)) rfl ?_
              refine am_ev_st 1 (f' := am_br ((am_bz r44) ≠ 0) 412 407 [(16, .int r40), (0, .retAddr 0), (1, .ref 0), (3, .int v3), (4, .int v4), (8, .int v8), (12, .int v12), (13, .int v13)] [] (W9 N_40 C_40 E_40 F_40 P_33 Q_40) k_40 n_40) (g := True ∧ True) (by with_unfolding_all rfl) ⟨trivial, trivial⟩ ?_
              by_cases c45 : (am_bz r44) ≠ 0
              · rw [if_pos c45] at h
                refine am_ev_pos c45 ?_
                refine am_ev_drop [1, 2, 3, 5, 6, 0] rfl rfl ?_
                exact ok_jp_f_law_412 hD hK h
              · rw [if_neg c45] at h
                refine am_ev_neg c45 ?_
                refine am_ev_drop [] rfl rfl ?_
                exact ok_jp_f_law_410 hD hK h
          · rw [if_neg c41] at h
            refine am_ev_neg c41 ?_
            refine am_ev_st 3 (f' := am_br (r40 = (-3 : Int32)) 412 384 [(16, .int r40), (0, .retAddr 0), (1, .ref 0), (3, .int v3), (4, .int v4), (8, .int v8), (12, .int v12), (13, .int v13)] [] (W9 N_40 C_40 E_40 F_40 P_33 Q_40) k_40 n_40) (g := True ∧ True ∧ True ∧ True) (by with_unfolding_all rfl) ⟨trivial, trivial, trivial, trivial⟩ ?_
            by_cases c62 : r40 = (-3 : Int32)
            · rw [if_pos c62] at h
              refine am_ev_pos c62 ?_
              refine am_ev_drop [1, 2, 3, 5, 6, 0] rfl rfl ?_
              exact ok_jp_f_law_412 hD hK h
            · rw [if_neg c62] at h
              refine am_ev_neg c62 ?_
              refine am_ev_st 1 (f' := (410, [(16, .int r40), (0, .retAddr 0), (1, .ref 0), (3, .int v3), (4, .int v4), (8, .int v8), (12, .int v12), (13, .int v13)], [], (W9 N_40 C_40 E_40 F_40 P_33 Q_40), k_40, n_40)) (g := True ∧ True) (by with_unfolding_all rfl) ⟨trivial, trivial⟩ ?_
              refine am_ev_drop [] rfl rfl ?_
              exact ok_jp_f_law_410 hD hK h
    · rw [if_neg c36] at h
      refine am_ev_neg c36 ?_
      refine am_ev_drop [] rfl rfl ?_
      exact ok_jp_f_law_343 hD hK h
set_option maxHeartbeats 4000000 in
set_option maxRecDepth 100000 in
theorem ok_jp_f_law_312 {sl : Nat} {xs : Nat → Int32} {fl d : Nat} {D : Nat} (hD : d + 8 ≤ D) {K : cN → cC → cE → cF → cP → cQ → Nat → Nat → Int32 → Option (Bool × cN × cC × cE × cF × cP × cQ × (Nat × Nat))} (hK : ∀ {N : cN} {C : cC} {E : cE} {F : cF} {P : cP} {Q : cQ} {k n : Nat} {v3 : Int32} {rv : Bool} {N' : cN} {C' : cC} {E' : cE} {F' : cF} {P' : cP} {Q' : cQ} {k' n' : Nat}, K N C E F P Q k n v3 = some (rv, N', C', E', F', P', Q', (k', n')) → am_Ev D 81 (sl + 1) xs (23, [(0, .retAddr 0), (1, .ref 0), (3, .int v3)], [], (W9 N C E F P Q), k, n) (.inl (some (.int (am_bz rv))), W9 N' C' E' F' P' Q', k', n')) : ∀ {N : cN} {C : cC} {E : cE} {F : cF} {P : cP} {Q : cQ} {k n : Nat} {v3 : Int32} {v4 : Int32} {v8 : Int32} {v12 : Int32} {v13 : Int32} {v15 : Int32} {rv : Bool} {N' : cN} {C' : cC} {E' : cE} {F' : cF} {P' : cP} {Q' : cQ} {k' n' : Nat} (h : jp_f_law_312 sl xs fl d K N C E F P Q k n v3 v4 v8 v12 v13 v15 = some (rv, N', C', E', F', P', Q', (k', n'))), am_Ev D 81 (sl + 1) xs (312, [(0, .retAddr 0), (1, .ref 0), (3, .int v3), (4, .int v4), (8, .int v8), (12, .int v12), (13, .int v13), (15, .int v15)], [], (W9 N C E F P Q), k, n) (.inl (some (.int (am_bz rv))), W9 N' C' E' F' P' Q', k', n') := by
  intro N C E F P Q k n v3 v4 v8 v12 v13 v15 rv N' C' E' F' P' Q' k' n' h
  unfold jp_f_law_312 at h
  refine am_ev_st 3 (f' := am_br (v15 = (1 : Int32)) 325 315 [(0, .retAddr 0), (1, .ref 0), (3, .int v3), (4, .int v4), (8, .int v8), (12, .int v12), (13, .int v13), (15, .int v15)] [] (W9 N C E F P Q) k n) (g := True ∧ True ∧ True ∧ True) (by with_unfolding_all rfl) ⟨trivial, trivial, trivial, trivial⟩ ?_
  by_cases c32 : v15 = (1 : Int32)
  · rw [if_pos c32] at h
    refine am_ev_pos c32 ?_
    refine am_ev_drop [0, 1, 2, 3, 4, 5, 6] rfl rfl ?_
    exact ok_jp_f_law_325 hD hK h
  · rw [if_neg c32] at h
    refine am_ev_neg c32 ?_
    refine am_ev_st 3 (f' := am_br (v15 ≠ (-3 : Int32)) 343 322 [(0, .retAddr 0), (1, .ref 0), (3, .int v3), (4, .int v4), (8, .int v8), (12, .int v12), (13, .int v13), (15, .int v15)] [] (W9 N C E F P Q) k n) (g := True ∧ True ∧ True ∧ True) (by with_unfolding_all rfl) ⟨trivial, trivial, trivial, trivial⟩ ?_
    by_cases c63 : v15 ≠ (-3 : Int32)
    · rw [if_pos c63] at h
      refine am_ev_pos c63 ?_
      refine am_ev_drop [] rfl rfl ?_
      exact ok_jp_f_law_343 hD hK h
    · rw [if_neg c63] at h
      refine am_ev_neg c63 ?_
      refine am_ev_drop [0, 1, 2, 3, 4, 5, 6] rfl rfl ?_
      exact ok_jp_f_law_325 hD hK h
set_option maxHeartbeats 4000000 in
set_option maxRecDepth 100000 in
theorem ok_jp_f_law_241 {sl : Nat} {xs : Nat → Int32} {fl d : Nat} {D : Nat} (hD : d + 8 ≤ D) {K : cN → cC → cE → cF → cP → cQ → Nat → Nat → Int32 → Option (Bool × cN × cC × cE × cF × cP × cQ × (Nat × Nat))} (hK : ∀ {N : cN} {C : cC} {E : cE} {F : cF} {P : cP} {Q : cQ} {k n : Nat} {v3 : Int32} {rv : Bool} {N' : cN} {C' : cC} {E' : cE} {F' : cF} {P' : cP} {Q' : cQ} {k' n' : Nat}, K N C E F P Q k n v3 = some (rv, N', C', E', F', P', Q', (k', n')) → am_Ev D 81 (sl + 1) xs (23, [(0, .retAddr 0), (1, .ref 0), (3, .int v3)], [], (W9 N C E F P Q), k, n) (.inl (some (.int (am_bz rv))), W9 N' C' E' F' P' Q', k', n')) : ∀ {N : cN} {C : cC} {E : cE} {F : cF} {P : cP} {Q : cQ} {k n : Nat} {v3 : Int32} {v4 : Int32} {v8 : Int32} {v10 : Int32} {rv : Bool} {N' : cN} {C' : cC} {E' : cE} {F' : cF} {P' : cP} {Q' : cQ} {k' n' : Nat} (h : jp_f_law_241 sl xs fl d K N C E F P Q k n v3 v4 v8 v10 = some (rv, N', C', E', F', P', Q', (k', n'))), am_Ev D 81 (sl + 1) xs (241, [(0, .retAddr 0), (1, .ref 0), (3, .int v3), (4, .int v4), (8, .int v8), (10, .int v10)], [], (W9 N C E F P Q), k, n) (.inl (some (.int (am_bz rv))), W9 N' C' E' F' P' Q', k', n') := by
  intro N C E F P Q k n v3 v4 v8 v10 rv N' C' E' F' P' Q' k' n' h
  unfold jp_f_law_241 at h
  refine am_ev_st 3 (f' := (246, [(0, .retAddr 0), (1, .ref 0), (3, .int v3), (4, .int v4), (8, .int v8), (10, .int v10)], [.int (30 : Int32), .int v8, .ref 0], (W9 N C E F P Q), k, n)) (g := True ∧ True ∧ True ∧ True) (by with_unfolding_all rfl) ⟨trivial, trivial, trivial, trivial⟩ ?_
  replace h := Option.bind_eq_some_iff.mp h
  obtain ⟨⟨r24, N_24, E_24, F_24, P_24, ⟨k_24, n_24⟩⟩, hc24, h⟩ := h
  try dsimp only at h
  refine am_ev_call (.invokestatic 66) 75 6 573 [.ref 0, .int v8, .int (30 : Int32)] [] rfl rfl rfl rfl (ok_fL_reduce hc24 D (by omega)) rfl ?_
  refine am_ev_st 1 (f' := am_br (0 ≤ r24) 255 249 [(0, .retAddr 0), (1, .ref 0), (3, .int v3), (4, .int v4), (8, .int v8), (10, .int v10)] [] (W9 N_24 C E_24 F_24 P_24 Q) k_24 n_24) (g := True ∧ True) (by with_unfolding_all rfl) ⟨trivial, trivial⟩ ?_
  by_cases c25 : 0 ≤ r24
  · rw [if_pos c25] at h
    refine am_ev_pos c25 ?_
    refine am_ev_st 1 (f' := (256, [(0, .retAddr 0), (1, .ref 0), (3, .int v3), (4, .int v4), (8, .int v8), (10, .int v10)], [.ref 0], (W9 N_24 C E_24 F_24 P_24 Q), k_24, n_24)) (g := True ∧ True) (by with_unfolding_all rfl) ⟨trivial, trivial⟩ ?_
    replace h := Option.bind_eq_some_iff.mp h
    obtain ⟨r26, hc26, h⟩ := h
    try dsimp only at h
    refine am_ev_call (.invokevirtual 68) 68 0 402 [.ref 0] [] rfl rfl rfl rfl (ok_fJ_reduced hc26 D (by omega)) rfl ?_
    refine am_ev_st 2 (f' := (262, [(12, .int r26), (0, .retAddr 0), (1, .ref 0), (3, .int v3), (4, .int v4), (8, .int v8), (10, .int v10)], [.ref 0], (W9 N_24 C E_24 F_24 P_24 Q), k_24, n_24)) (g := True ∧ True ∧ True) (by with_unfolding_all rfl) ⟨trivial, trivial, trivial⟩ ?_
    replace h := Option.bind_eq_some_iff.mp h
    obtain ⟨⟨r27, N_27, P_27, ⟨k_27, n_27⟩⟩, hc27, h⟩ := h
    try dsimp only at h
    refine am_ev_call (.invokevirtual 60) 67 0 273 [.ref 0] [] rfl rfl rfl rfl (ok_fJ_keep hc27 D (by omega)) rfl ?_
    refine am_ev_st 3 (f' := am_br (0 ≤ r27) 275 269 [(13, .int r27), (12, .int r26), (0, .retAddr 0), (1, .ref 0), (3, .int v3), (4, .int v4), (8, .int v8), (10, .int v10)] [] (W9 N_27 C E_24 F_24 P_27 Q) k_27 n_27) (g := True ∧ True ∧ True ∧ True) (by with_unfolding_all rfl) ⟨trivial, trivial, trivial, trivial⟩ ?_
    by_cases c28 : 0 ≤ r27
    · rw [if_pos c28] at h
      refine am_ev_pos c28 ?_
      refine am_ev_st 4 (f' := (282, [(13, .int r27), (12, .int r26), (0, .retAddr 0), (1, .ref 0), (3, .int v3), (4, .int v4), (8, .int v8), (10, .int v10)], [.int (30 : Int32), .int v10, .int r27, .ref 0], (W9 N_27 C E_24 F_24 P_27 Q), k_27, n_27)) (g := True ∧ True ∧ True ∧ True ∧ True) (by with_unfolding_all rfl) ⟨trivial, trivial, trivial, trivial, trivial⟩ ?_
      replace h := Option.bind_eq_some_iff.mp h
      obtain ⟨⟨r29, N_29, E_29, F_29, ⟨k_29, n_29⟩⟩, hc29, h⟩ := h
      try dsimp only at h
      refine am_ev_call (.invokestatic 63) 77 8 589 [.ref 0, .int r27, .int v10, .int (30 : Int32)] [] rfl rfl rfl rfl (ok_fL_check hc29 D (by omega)) rfl ?_
      refine am_ev_st 5 (f' := (294, [(14, .int r29), (13, .int r27), (12, .int r26), (0, .retAddr 0), (1, .ref 0), (3, .int v3), (4, .int v4), (8, .int v8), (10, .int v10)], [.int (30 : Int32), .int r27, .int v8, .ref 0], (W9 N_29 C E_29 F_29 P_27 Q), k_29, n_29)) (g := True ∧ True ∧ True ∧ True ∧ True ∧ True) (by with_unfolding_all rfl) ⟨trivial, trivial, trivial, trivial, trivial, trivial⟩ ?_
      replace h := Option.bind_eq_some_iff.mp h
      obtain ⟨⟨r30, N_30, E_30, F_30, ⟨k_30, n_30⟩⟩, hc30, h⟩ := h
      try dsimp only at h
      refine am_ev_call (.invokestatic 71) 76 8 581 [.ref 0, .int v8, .int r27, .int (30 : Int32)] [] rfl rfl rfl rfl (ok_fL_same hc30 D (by omega)) rfl ?_
      refine am_ev_st 4 (f' := am_br (r29 = (1 : Int32)) 312 302 [(15, .int r30), (14, .int r29), (13, .int r27), (12, .int r26), (0, .retAddr 0), (1, .ref 0), (3, .int v3), (4, .int v4), (8, .int v8), (10, .int v10)] [] (W9 N_30 C E_30 F_30 P_27 Q) k_30 n_30) (g := True ∧ True ∧ True ∧ True ∧ True) (by with_unfolding_all rfl) ⟨trivial, trivial, trivial, trivial, trivial⟩ ?_
      by_cases c31 : r29 = (1 : Int32)
      · rw [if_pos c31] at h
        refine am_ev_pos c31 ?_
        refine am_ev_drop [4, 5, 6, 7, 8, 3, 2, 0] rfl rfl ?_
        exact ok_jp_f_law_312 hD hK h
      · rw [if_neg c31] at h
        refine am_ev_neg c31 ?_
        refine am_ev_st 3 (f' := am_br (r29 ≠ (-3 : Int32)) 343 309 [(15, .int r30), (14, .int r29), (13, .int r27), (12, .int r26), (0, .retAddr 0), (1, .ref 0), (3, .int v3), (4, .int v4), (8, .int v8), (10, .int v10)] [] (W9 N_30 C E_30 F_30 P_27 Q) k_30 n_30) (g := True ∧ True ∧ True ∧ True) (by with_unfolding_all rfl) ⟨trivial, trivial, trivial, trivial⟩ ?_
        by_cases c64 : r29 ≠ (-3 : Int32)
        · rw [if_pos c64] at h
          refine am_ev_pos c64 ?_
          refine am_ev_drop [] rfl rfl ?_
          exact ok_jp_f_law_343 hD hK h
        · rw [if_neg c64] at h
          refine am_ev_neg c64 ?_
          refine am_ev_drop [4, 5, 6, 7, 8, 3, 2, 0] rfl rfl ?_
          exact ok_jp_f_law_312 hD hK h
    · rw [if_neg c28] at h
      refine am_ev_neg c28 ?_
      refine am_ev_st 1 (f' := (523, [(13, .int r27), (12, .int r26), (0, .retAddr 0), (1, .ref 0), (3, .int v3), (4, .int v4), (8, .int v8), (10, .int v10)], [], (W9 N_27 C E_24 F_24 P_27 Q), k_27, n_27)) (g := True ∧ True) (by with_unfolding_all rfl) ⟨trivial, trivial⟩ ?_
      refine am_ev_drop [2, 3, 4] rfl rfl ?_
      exact ok_jp_f_law_523 hD hK h
  · rw [if_neg c25] at h
    refine am_ev_neg c25 ?_
    refine am_ev_st 1 (f' := (523, [(0, .retAddr 0), (1, .ref 0), (3, .int v3), (4, .int v4), (8, .int v8), (10, .int v10)], [], (W9 N_24 C E_24 F_24 P_24 Q), k_24, n_24)) (g := True ∧ True) (by with_unfolding_all rfl) ⟨trivial, trivial⟩ ?_
    refine am_ev_drop [0, 1, 2] rfl rfl ?_
    exact ok_jp_f_law_523 hD hK h
set_option maxHeartbeats 4000000 in
set_option maxRecDepth 100000 in
theorem ok_jp_f_law_145 {sl : Nat} {xs : Nat → Int32} {fl d : Nat} {D : Nat} (hD : d + 8 ≤ D) {K : cN → cC → cE → cF → cP → cQ → Nat → Nat → Int32 → Option (Bool × cN × cC × cE × cF × cP × cQ × (Nat × Nat))} (hK : ∀ {N : cN} {C : cC} {E : cE} {F : cF} {P : cP} {Q : cQ} {k n : Nat} {v3 : Int32} {rv : Bool} {N' : cN} {C' : cC} {E' : cE} {F' : cF} {P' : cP} {Q' : cQ} {k' n' : Nat}, K N C E F P Q k n v3 = some (rv, N', C', E', F', P', Q', (k', n')) → am_Ev D 81 (sl + 1) xs (23, [(0, .retAddr 0), (1, .ref 0), (3, .int v3)], [], (W9 N C E F P Q), k, n) (.inl (some (.int (am_bz rv))), W9 N' C' E' F' P' Q', k', n')) : ∀ {N : cN} {C : cC} {E : cE} {F : cF} {P : cP} {Q : cQ} {k n : Nat} {v3 : Int32} {v4 : Int32} {s0 : Int32} {rv : Bool} {N' : cN} {C' : cC} {E' : cE} {F' : cF} {P' : cP} {Q' : cQ} {k' n' : Nat} (h : jp_f_law_145 sl xs fl d K N C E F P Q k n v3 v4 s0 = some (rv, N', C', E', F', P', Q', (k', n'))), am_Ev D 81 (sl + 1) xs (145, [(0, .retAddr 0), (1, .ref 0), (3, .int v3), (4, .int v4)], [.int s0], (W9 N C E F P Q), k, n) (.inl (some (.int (am_bz rv))), W9 N' C' E' F' P' Q', k', n') := by
  intro N C E F P Q k n v3 v4 s0 rv N' C' E' F' P' Q' k' n' h
  unfold jp_f_law_145 at h
  refine am_ev_st 3 (f' := am_br (0 ≤ s0) 155 149 [(8, .int s0), (0, .retAddr 0), (1, .ref 0), (3, .int v3), (4, .int v4)] [] (W9 N C E F P Q) k n) (g := True ∧ True ∧ True ∧ True) (by with_unfolding_all rfl) ⟨trivial, trivial, trivial, trivial⟩ ?_
  by_cases c14 : 0 ≤ s0
  · rw [if_pos c14] at h
    refine am_ev_pos c14 ?_
    refine am_ev_st 3 (f' := (160, [(8, .int s0), (0, .retAddr 0), (1, .ref 0), (3, .int v3), (4, .int v4)], [.int (30 : Int32), .int s0, .ref 0], (W9 N C E F P Q), k, n)) (g := True ∧ True ∧ True ∧ True) (by with_unfolding_all rfl) ⟨trivial, trivial, trivial, trivial⟩ ?_
    replace h := Option.bind_eq_some_iff.mp h
    obtain ⟨⟨r15, N_15, E_15, F_15, P_15, ⟨k_15, n_15⟩⟩, hc15, h⟩ := h
    try dsimp only at h
    refine am_ev_call (.invokestatic 58) 74 6 410 [.ref 0, .int s0, .int (30 : Int32)] [] rfl rfl rfl rfl (ok_fL_infer hc15 D (by omega)) rfl ?_
    refine am_ev_st 3 (f' := am_br (0 ≤ r15) 173 167 [(9, .int r15), (8, .int s0), (0, .retAddr 0), (1, .ref 0), (3, .int v3), (4, .int v4)] [] (W9 N_15 C E_15 F_15 P_15 Q) k_15 n_15) (g := True ∧ True ∧ True ∧ True) (by with_unfolding_all rfl) ⟨trivial, trivial, trivial, trivial⟩ ?_
    by_cases c16 : 0 ≤ r15
    · rw [if_pos c16] at h
      refine am_ev_pos c16 ?_
      refine am_ev_st 1 (f' := (174, [(9, .int r15), (8, .int s0), (0, .retAddr 0), (1, .ref 0), (3, .int v3), (4, .int v4)], [.ref 0], (W9 N_15 C E_15 F_15 P_15 Q), k_15, n_15)) (g := True ∧ True) (by with_unfolding_all rfl) ⟨trivial, trivial⟩ ?_
      replace h := Option.bind_eq_some_iff.mp h
      obtain ⟨⟨r17, N_17, P_17, ⟨k_17, n_17⟩⟩, hc17, h⟩ := h
      try dsimp only at h
      refine am_ev_call (.invokevirtual 60) 67 0 273 [.ref 0] [] rfl rfl rfl rfl (ok_fJ_keep hc17 D (by omega)) rfl ?_
      refine am_ev_st 3 (f' := am_br (0 ≤ r17) 187 181 [(10, .int r17), (9, .int r15), (8, .int s0), (0, .retAddr 0), (1, .ref 0), (3, .int v3), (4, .int v4)] [] (W9 N_17 C E_15 F_15 P_17 Q) k_17 n_17) (g := True ∧ True ∧ True ∧ True) (by with_unfolding_all rfl) ⟨trivial, trivial, trivial, trivial⟩ ?_
      by_cases c18 : 0 ≤ r17
      · rw [if_pos c18] at h
        refine am_ev_pos c18 ?_
        refine am_ev_st 3 (f' := (192, [(10, .int r17), (9, .int r15), (8, .int s0), (0, .retAddr 0), (1, .ref 0), (3, .int v3), (4, .int v4)], [.int (30 : Int32), .int r17, .ref 0], (W9 N_17 C E_15 F_15 P_17 Q), k_17, n_17)) (g := True ∧ True ∧ True ∧ True) (by with_unfolding_all rfl) ⟨trivial, trivial, trivial, trivial⟩ ?_
        replace h := Option.bind_eq_some_iff.mp h
        obtain ⟨⟨r19, N_19, E_19, F_19, P_19, ⟨k_19, n_19⟩⟩, hc19, h⟩ := h
        try dsimp only at h
        refine am_ev_call (.invokestatic 58) 74 6 410 [.ref 0, .int r17, .int (30 : Int32)] [] rfl rfl rfl rfl (ok_fL_infer hc19 D (by omega)) rfl ?_
        refine am_ev_st 4 (f' := am_br (r19 = (-2 : Int32)) 239 201 [(11, .int r19), (10, .int r17), (9, .int r15), (8, .int s0), (0, .retAddr 0), (1, .ref 0), (3, .int v3), (4, .int v4)] [] (W9 N_19 C E_19 F_19 P_19 Q) k_19 n_19) (g := True ∧ True ∧ True ∧ True ∧ True) (by with_unfolding_all rfl) ⟨trivial, trivial, trivial, trivial, trivial⟩ ?_
        by_cases c20 : r19 = (-2 : Int32)
        · rw [if_pos c20] at h
          refine am_ev_pos c20 ?_
          refine am_ev_drop [] rfl rfl ?_
          exact ok_jp_f_law_239 hD hK h
        · rw [if_neg c20] at h
          refine am_ev_neg c20 ?_
          refine am_ev_st 3 (f' := am_br (r19 = (-1 : Int32)) 239 207 [(11, .int r19), (10, .int r17), (9, .int r15), (8, .int s0), (0, .retAddr 0), (1, .ref 0), (3, .int v3), (4, .int v4)] [] (W9 N_19 C E_19 F_19 P_19 Q) k_19 n_19) (g := True ∧ True ∧ True ∧ True) (by with_unfolding_all rfl) ⟨trivial, trivial, trivial, trivial⟩ ?_
          by_cases c21 : r19 = (-1 : Int32)
          · rw [if_pos c21] at h
            refine am_ev_pos c21 ?_
            refine am_ev_drop [] rfl rfl ?_
            exact ok_jp_f_law_239 hD hK h
          · rw [if_neg c21] at h
            refine am_ev_neg c21 ?_
            refine am_ev_st 4 (f' := (217, [(11, .int r19), (10, .int r17), (9, .int r15), (8, .int s0), (0, .retAddr 0), (1, .ref 0), (3, .int v3), (4, .int v4)], [.int (30 : Int32), .int r17, .int s0, .ref 0], (W9 N_19 C E_19 F_19 P_19 Q), k_19, n_19)) (g := True ∧ True ∧ True ∧ True ∧ True) (by with_unfolding_all rfl) ⟨trivial, trivial, trivial, trivial, trivial⟩ ?_
            replace h := Option.bind_eq_some_iff.mp h
            obtain ⟨⟨r22, N_22, E_22, F_22, ⟨k_22, n_22⟩⟩, hc22, h⟩ := h
            try dsimp only at h
            refine am_ev_call (.invokestatic 63) 77 8 589 [.ref 0, .int s0, .int r17, .int (30 : Int32)] [] rfl rfl rfl rfl (ok_fL_check hc22 D (by omega)) rfl ?_
            refine am_ev_st 2 (f' := am_br (r22 = (1 : Int32)) 241 221 [(11, .int r19), (10, .int r17), (9, .int r15), (8, .int s0), (0, .retAddr 0), (1, .ref 0), (3, .int v3), (4, .int v4)] [] (W9 N_22 C E_22 F_22 P_19 Q) k_22 n_22) (g := True ∧ True ∧ True) (by with_unfolding_all rfl) ⟨trivial, trivial, trivial⟩ ?_
            by_cases c23 : r22 = (1 : Int32)
            · rw [if_pos c23] at h
              refine am_ev_pos c23 ?_
              refine am_ev_drop [4, 5, 6, 7, 3, 1] rfl rfl ?_
              exact ok_jp_f_law_241 hD hK h
            · rw [if_neg c23] at h
              refine am_ev_neg c23 ?_
              refine am_ev_st 4 (f' := (231, [(11, .int r19), (10, .int r17), (9, .int r15), (8, .int s0), (0, .retAddr 0), (1, .ref 0), (3, .int v3), (4, .int v4)], [.int (30 : Int32), .int r17, .int s0, .ref 0], (W9 N_22 C E_22 F_22 P_19 Q), k_22, n_22)) (g := True ∧ True ∧ True ∧ True ∧ True) (by with_unfolding_all rfl) ⟨trivial, trivial, trivial, trivial, trivial⟩ ?_
              replace h := Option.bind_eq_some_iff.mp h
              obtain ⟨⟨r65, N_65, E_65, F_65, ⟨k_65, n_65⟩⟩, hc65, h⟩ := h
              try dsimp only at h
              refine am_ev_call (.invokestatic 63) 77 8 589 [.ref 0, .int s0, .int r17, .int (30 : Int32)] [] rfl rfl rfl rfl (ok_fL_check hc65 D (by omega)) rfl ?_
              refine am_ev_st 2 (f' := am_br (r65 = (-3 : Int32)) 241 236 [(11, .int r19), (10, .int r17), (9, .int r15), (8, .int s0), (0, .retAddr 0), (1, .ref 0), (3, .int v3), (4, .int v4)] [] (W9 N_65 C E_65 F_65 P_19 Q) k_65 n_65) (g := True ∧ True ∧ True) (by with_unfolding_all rfl) ⟨trivial, trivial, trivial⟩ ?_
              by_cases c66 : r65 = (-3 : Int32)
              · rw [if_pos c66] at h
                refine am_ev_pos c66 ?_
                refine am_ev_drop [4, 5, 6, 7, 3, 1] rfl rfl ?_
                exact ok_jp_f_law_241 hD hK h
              · rw [if_neg c66] at h
                refine am_ev_neg c66 ?_
                refine am_ev_drop [] rfl rfl ?_
                exact ok_jp_f_law_239 hD hK h
      · rw [if_neg c18] at h
        refine am_ev_neg c18 ?_
        refine am_ev_st 1 (f' := (523, [(10, .int r17), (9, .int r15), (8, .int s0), (0, .retAddr 0), (1, .ref 0), (3, .int v3), (4, .int v4)], [], (W9 N_17 C E_15 F_15 P_17 Q), k_17, n_17)) (g := True ∧ True) (by with_unfolding_all rfl) ⟨trivial, trivial⟩ ?_
        refine am_ev_drop [3, 4, 5] rfl rfl ?_
        exact ok_jp_f_law_523 hD hK h
    · rw [if_neg c16] at h
      refine am_ev_neg c16 ?_
      refine am_ev_st 1 (f' := (523, [(9, .int r15), (8, .int s0), (0, .retAddr 0), (1, .ref 0), (3, .int v3), (4, .int v4)], [], (W9 N_15 C E_15 F_15 P_15 Q), k_15, n_15)) (g := True ∧ True) (by with_unfolding_all rfl) ⟨trivial, trivial⟩ ?_
      refine am_ev_drop [2, 3, 4] rfl rfl ?_
      exact ok_jp_f_law_523 hD hK h
  · rw [if_neg c14] at h
    refine am_ev_neg c14 ?_
    refine am_ev_st 1 (f' := (523, [(8, .int s0), (0, .retAddr 0), (1, .ref 0), (3, .int v3), (4, .int v4)], [], (W9 N C E F P Q), k, n)) (g := True ∧ True) (by with_unfolding_all rfl) ⟨trivial, trivial⟩ ?_
    refine am_ev_drop [1, 2, 3] rfl rfl ?_
    exact ok_jp_f_law_523 hD hK h
set_option maxHeartbeats 4000000 in
set_option maxRecDepth 100000 in
theorem ok_jp_f_law_128 {sl : Nat} {xs : Nat → Int32} {fl d : Nat} {D : Nat} (hD : d + 8 ≤ D) {K : cN → cC → cE → cF → cP → cQ → Nat → Nat → Int32 → Option (Bool × cN × cC × cE × cF × cP × cQ × (Nat × Nat))} (hK : ∀ {N : cN} {C : cC} {E : cE} {F : cF} {P : cP} {Q : cQ} {k n : Nat} {v3 : Int32} {rv : Bool} {N' : cN} {C' : cC} {E' : cE} {F' : cF} {P' : cP} {Q' : cQ} {k' n' : Nat}, K N C E F P Q k n v3 = some (rv, N', C', E', F', P', Q', (k', n')) → am_Ev D 81 (sl + 1) xs (23, [(0, .retAddr 0), (1, .ref 0), (3, .int v3)], [], (W9 N C E F P Q), k, n) (.inl (some (.int (am_bz rv))), W9 N' C' E' F' P' Q', k', n')) : ∀ {N : cN} {C : cC} {E : cE} {F : cF} {P : cP} {Q : cQ} {k n : Nat} {v3 : Int32} {v4 : Int32} {v5 : Int32} {s0 : Int32} {s1 : Int32} {rv : Bool} {N' : cN} {C' : cC} {E' : cE} {F' : cF} {P' : cP} {Q' : cQ} {k' n' : Nat} (h : jp_f_law_128 sl xs fl d K N C E F P Q k n v3 v4 v5 s0 s1 = some (rv, N', C', E', F', P', Q', (k', n'))), am_Ev D 81 (sl + 1) xs (128, [(0, .retAddr 0), (1, .ref 0), (3, .int v3), (4, .int v4), (5, .int v5)], [.int s0, .int s1, .ref 0], (W9 N C E F P Q), k, n) (.inl (some (.int (am_bz rv))), W9 N' C' E' F' P' Q', k', n') := by
  intro N C E F P Q k n v3 v4 v5 s0 s1 rv N' C' E' F' P' Q' k' n' h
  unfold jp_f_law_128 at h
  refine am_ev_st 1 (f' := (130, [(0, .retAddr 0), (1, .ref 0), (3, .int v3), (4, .int v4), (5, .int v5)], [.int v5, .int s0, .int s1, .ref 0], (W9 N C E F P Q), k, n)) (g := True ∧ True) (by with_unfolding_all rfl) ⟨trivial, trivial⟩ ?_
  replace h := Option.bind_eq_some_iff.mp h
  obtain ⟨⟨r68, N_68⟩, hc68, h⟩ := h
  try dsimp only at h
  refine am_ev_call (.invokevirtual 35) 56 6 177 [.ref 0, .int s1, .int s0, .int v5] [] rfl rfl rfl rfl (ok_fJ_make hc68 D (by omega)) rfl ?_
  refine am_ev_st 1 (f' := (145, [(0, .retAddr 0), (1, .ref 0), (3, .int v3), (4, .int v4), (5, .int v5)], [.int r68], (W9 N_68 C E F P Q), k, n)) (g := True ∧ True) (by with_unfolding_all rfl) ⟨trivial, trivial⟩ ?_
  refine am_ev_drop [0, 1, 2, 3] rfl rfl ?_
  exact ok_jp_f_law_145 hD hK h
set_option maxHeartbeats 4000000 in
set_option maxRecDepth 100000 in
theorem ok_lp_f_law_23 {sl : Nat} {xs : Nat → Int32} {fl d : Nat} : ∀ {w : Nat} {N : cN} {C : cC} {E : cE} {F : cF} {P : cP} {Q : cQ} {k n : Nat} {v3 : Int32} {rv : Bool} {N' : cN} {C' : cC} {E' : cE} {F' : cF} {P' : cP} {Q' : cQ} {k' n' : Nat} (h : lp_f_law_23 sl xs fl d w N C E F P Q k n v3 = some (rv, N', C', E', F', P', Q', (k', n'))) (D : Nat) (hD : d + 8 ≤ D), am_Ev D 81 (sl + 1) xs (23, [(0, .retAddr 0), (1, .ref 0), (3, .int v3)], [], (W9 N C E F P Q), k, n) (.inl (some (.int (am_bz rv))), W9 N' C' E' F' P' Q', k', n') := by
  intro w
  induction w with
  | zero => intros; rename_i h _ _; cases h
  | succ w ih0 =>
    intro N C E F P Q k n v3 rv N' C' E' F' P' Q' k' n' h D hD
    have ih := fun {N} {C} {E} {F} {P} {Q} {k} {n} {v3} {rv} {N'} {C'} {E'} {F'} {P'} {Q'} {k'} {n'} h => @ih0 N C E F P Q k n v3 rv N' C' E' F' P' Q' k' n' h D hD
    unfold lp_f_law_23 at h
    refine am_ev_st 4 (f' := am_br ((Int32.ofNat sl) ≤ v3) 529 26 [(0, .retAddr 0), (1, .ref 0), (3, .int v3)] [] (W9 N C E F P Q) k n) (g := True ∧ True ∧ 0 < sl + 1 ∧ True ∧ True) (by with_unfolding_all rfl) ⟨trivial, trivial, Nat.succ_pos _, trivial, trivial⟩ ?_
    by_cases c3 : (Int32.ofNat sl) ≤ v3
    · rw [if_pos c3] at h
      refine am_ev_pos c3 ?_
      refine am_ev_drop [] rfl rfl ?_
      exact ok_jp_f_law_529 hD ih h
    · rw [if_neg c3] at h
      refine am_ev_neg c3 ?_
      refine am_ev_st 1 (f' := (30, [(0, .retAddr 0), (1, .ref 0), (3, .int v3)], [.ref 0], (W9 N C E F P Q), k, n)) (g := True ∧ True) (by with_unfolding_all rfl) ⟨trivial, trivial⟩ ?_
      replace h := Option.bind_eq_some_iff.mp h
      obtain ⟨r4, hc4, h⟩ := h
      try dsimp only at h
      refine am_ev_call (.invokevirtual 51) 57 0 219 [.ref 0] [] rfl rfl rfl rfl (ok_fJ_terms hc4 D (by omega)) rfl ?_
      refine am_ev_st 2 (f' := am_br ((80 : Int32) ≤ r4) 529 35 [(0, .retAddr 0), (1, .ref 0), (3, .int v3)] [] (W9 N C E F P Q) k n) (g := True ∧ True ∧ True) (by with_unfolding_all rfl) ⟨trivial, trivial, trivial⟩ ?_
      by_cases c5 : (80 : Int32) ≤ r4
      · rw [if_pos c5] at h
        refine am_ev_pos c5 ?_
        refine am_ev_drop [] rfl rfl ?_
        exact ok_jp_f_law_529 hD ih h
      · rw [if_neg c5] at h
        refine am_ev_neg c5 ?_
        by_cases g6 : (v3 < 0 ∨ sl ≤ (v3).toNatClampNeg)
        · rw [if_pos g6] at h; cases h
        rw [if_neg g6] at h
        refine am_ev_st 10 (f' := (52, [(4, .int (xs (v3).toNatClampNeg)), (0, .retAddr 0), (1, .ref 0), (3, .int v3)], [.ref 0, .int (((xs (v3).toNatClampNeg) >>> ((3 : Int32) &&& 31)) &&& (255 : Int32))], (W9 N C E F P Q), k, n)) (g := True ∧ True ∧ (0 < sl + 1 ∧ vp_in (v3) sl) ∧ True ∧ True ∧ True ∧ True ∧ True ∧ True ∧ True ∧ True) (by with_unfolding_all rfl) ⟨trivial, trivial, ⟨Nat.succ_pos _, g6⟩, trivial, trivial, trivial, trivial, trivial, trivial, trivial, trivial⟩ ?_
        replace h := Option.bind_eq_some_iff.mp h
        obtain ⟨r7, hc7, h⟩ := h
        try dsimp only at h
        refine am_ev_call (.invokevirtual 51) 57 0 219 [.ref 0] [.int (((xs (v3).toNatClampNeg) >>> ((3 : Int32) &&& 31)) &&& (255 : Int32))] rfl rfl rfl rfl (ok_fJ_terms hc7 D (by omega)) rfl ?_
        replace h := Option.bind_eq_some_iff.mp h
        obtain ⟨r8, hc8, h⟩ := h
        try dsimp only at h
        refine am_ev_call (.invokestatic 55) 82 4 634 [.int (((xs (v3).toNatClampNeg) >>> ((3 : Int32) &&& 31)) &&& (255 : Int32)), .int r7] [] rfl rfl rfl rfl (ok_fL_pick hc8 D (by omega)) rfl ?_
        refine am_ev_st 7 (f' := (70, [(5, .int r8), (4, .int (xs (v3).toNatClampNeg)), (0, .retAddr 0), (1, .ref 0), (3, .int v3)], [.ref 0, .int (((xs (v3).toNatClampNeg) >>> ((11 : Int32) &&& 31)) &&& (255 : Int32))], (W9 N C E F P Q), k, n)) (g := True ∧ True ∧ True ∧ True ∧ True ∧ True ∧ True ∧ True) (by with_unfolding_all rfl) ⟨trivial, trivial, trivial, trivial, trivial, trivial, trivial, trivial⟩ ?_
        replace h := Option.bind_eq_some_iff.mp h
        obtain ⟨r9, hc9, h⟩ := h
        try dsimp only at h
        refine am_ev_call (.invokevirtual 51) 57 0 219 [.ref 0] [.int (((xs (v3).toNatClampNeg) >>> ((11 : Int32) &&& 31)) &&& (255 : Int32))] rfl rfl rfl rfl (ok_fJ_terms hc9 D (by omega)) rfl ?_
        replace h := Option.bind_eq_some_iff.mp h
        obtain ⟨r10, hc10, h⟩ := h
        try dsimp only at h
        refine am_ev_call (.invokestatic 55) 82 4 634 [.int (((xs (v3).toNatClampNeg) >>> ((11 : Int32) &&& 31)) &&& (255 : Int32)), .int r9] [] rfl rfl rfl rfl (ok_fL_pick hc10 D (by omega)) rfl ?_
        refine am_ev_st 8 (f' := am_br ((6 : Int32) ≤ ((xs (v3).toNatClampNeg) &&& (7 : Int32))) 104 89 [(7, .int ((xs (v3).toNatClampNeg) &&& (7 : Int32))), (6, .int r10), (5, .int r8), (4, .int (xs (v3).toNatClampNeg)), (0, .retAddr 0), (1, .ref 0), (3, .int v3)] [] (W9 N C E F P Q) k n) (g := True ∧ True ∧ True ∧ True ∧ True ∧ True ∧ True ∧ True ∧ True) (by with_unfolding_all rfl) ⟨trivial, trivial, trivial, trivial, trivial, trivial, trivial, trivial, trivial⟩ ?_
        by_cases c11 : (6 : Int32) ≤ ((xs (v3).toNatClampNeg) &&& (7 : Int32))
        · rw [if_pos c11] at h
          refine am_ev_pos c11 ?_
          refine am_ev_st 3 (f' := am_br (((xs (v3).toNatClampNeg) &&& (7 : Int32)) ≠ (6 : Int32)) 136 108 [(7, .int ((xs (v3).toNatClampNeg) &&& (7 : Int32))), (6, .int r10), (5, .int r8), (4, .int (xs (v3).toNatClampNeg)), (0, .retAddr 0), (1, .ref 0), (3, .int v3)] [] (W9 N C E F P Q) k n) (g := True ∧ True ∧ True ∧ True) (by with_unfolding_all rfl) ⟨trivial, trivial, trivial, trivial⟩ ?_
          by_cases c12 : ((xs (v3).toNatClampNeg) &&& (7 : Int32)) ≠ (6 : Int32)
          · rw [if_pos c12] at h
            refine am_ev_pos c12 ?_
            refine am_ev_st 4 (f' := (142, [(7, .int ((xs (v3).toNatClampNeg) &&& (7 : Int32))), (6, .int r10), (5, .int r8), (4, .int (xs (v3).toNatClampNeg)), (0, .retAddr 0), (1, .ref 0), (3, .int v3)], [.int r10, .int r8, .int (2 : Int32), .ref 0], (W9 N C E F P Q), k, n)) (g := True ∧ True ∧ True ∧ True ∧ True) (by with_unfolding_all rfl) ⟨trivial, trivial, trivial, trivial, trivial⟩ ?_
            replace h := Option.bind_eq_some_iff.mp h
            obtain ⟨⟨r13, N_13⟩, hc13, h⟩ := h
            try dsimp only at h
            refine am_ev_call (.invokevirtual 35) 56 6 177 [.ref 0, .int (2 : Int32), .int r8, .int r10] [] rfl rfl rfl rfl (ok_fJ_make hc13 D (by omega)) rfl ?_
            refine am_ev_drop [4, 5, 6, 3] rfl rfl ?_
            exact ok_jp_f_law_145 hD ih h
          · rw [if_neg c12] at h
            refine am_ev_neg c12 ?_
            refine am_ev_st 8 (f' := am_br ((((xs (v3).toNatClampNeg) >>> ((19 : Int32) &&& 31)) &&& (1 : Int32)) ≠ 0) 127 120 [(7, .int ((xs (v3).toNatClampNeg) &&& (7 : Int32))), (6, .int r10), (5, .int r8), (4, .int (xs (v3).toNatClampNeg)), (0, .retAddr 0), (1, .ref 0), (3, .int v3)] [.int (3 : Int32), .ref 0] (W9 N C E F P Q) k n) (g := True ∧ True ∧ True ∧ True ∧ True ∧ True ∧ True ∧ True ∧ True) (by with_unfolding_all rfl) ⟨trivial, trivial, trivial, trivial, trivial, trivial, trivial, trivial, trivial⟩ ?_
            by_cases c67 : (((xs (v3).toNatClampNeg) >>> ((19 : Int32) &&& 31)) &&& (1 : Int32)) ≠ 0
            · rw [if_pos c67] at h
              refine am_ev_pos c67 ?_
              refine am_ev_st 1 (f' := (128, [(7, .int ((xs (v3).toNatClampNeg) &&& (7 : Int32))), (6, .int r10), (5, .int r8), (4, .int (xs (v3).toNatClampNeg)), (0, .retAddr 0), (1, .ref 0), (3, .int v3)], [.int (2 : Int32), .int (3 : Int32), .ref 0], (W9 N C E F P Q), k, n)) (g := True ∧ True) (by with_unfolding_all rfl) ⟨trivial, trivial⟩ ?_
              refine am_ev_drop [4, 5, 6, 3, 2] rfl rfl ?_
              exact ok_jp_f_law_128 hD ih h
            · rw [if_neg c67] at h
              refine am_ev_neg c67 ?_
              refine am_ev_st 2 (f' := (128, [(7, .int ((xs (v3).toNatClampNeg) &&& (7 : Int32))), (6, .int r10), (5, .int r8), (4, .int (xs (v3).toNatClampNeg)), (0, .retAddr 0), (1, .ref 0), (3, .int v3)], [.int (1 : Int32), .int (3 : Int32), .ref 0], (W9 N C E F P Q), k, n)) (g := True ∧ True ∧ True) (by with_unfolding_all rfl) ⟨trivial, trivial, trivial⟩ ?_
              refine am_ev_drop [4, 5, 6, 3, 2] rfl rfl ?_
              exact ok_jp_f_law_128 hD ih h
        · rw [if_neg c11] at h
          refine am_ev_neg c11 ?_
          refine am_ev_st 4 (f' := (98, [(7, .int ((xs (v3).toNatClampNeg) &&& (7 : Int32))), (6, .int r10), (5, .int r8), (4, .int (xs (v3).toNatClampNeg)), (0, .retAddr 0), (1, .ref 0), (3, .int v3)], [.int r10, .int r8, .int (4 : Int32), .ref 0], (W9 N C E F P Q), k, n)) (g := True ∧ True ∧ True ∧ True ∧ True) (by with_unfolding_all rfl) ⟨trivial, trivial, trivial, trivial, trivial⟩ ?_
          replace h := Option.bind_eq_some_iff.mp h
          obtain ⟨⟨r69, N_69⟩, hc69, h⟩ := h
          try dsimp only at h
          refine am_ev_call (.invokevirtual 35) 56 6 177 [.ref 0, .int (4 : Int32), .int r8, .int r10] [] rfl rfl rfl rfl (ok_fJ_make hc69 D (by omega)) rfl ?_
          refine am_ev_st 1 (f' := (145, [(7, .int ((xs (v3).toNatClampNeg) &&& (7 : Int32))), (6, .int r10), (5, .int r8), (4, .int (xs (v3).toNatClampNeg)), (0, .retAddr 0), (1, .ref 0), (3, .int v3)], [.int r69], (W9 N_69 C E F P Q), k, n)) (g := True ∧ True) (by with_unfolding_all rfl) ⟨trivial, trivial⟩ ?_
          refine am_ev_drop [4, 5, 6, 3] rfl rfl ?_
          exact ok_jp_f_law_145 hD ih h
set_option maxHeartbeats 4000000 in
set_option maxRecDepth 100000 in
theorem ok_f_law8 {sl : Nat} {xs : Nat → Int32} {fl d : Nat} {N : cN} {C : cC} {E : cE} {F : cF} {P : cP} {Q : cQ} {k n : Nat} {rv : Bool} {N' : cN} {C' : cC} {E' : cE} {F' : cF} {P' : cP} {Q' : cQ} {k' n' : Nat} (h : f_law8 sl xs fl d N C E F P Q k n = some (rv, N', C', E', F', P', Q', (k', n'))) (D : Nat) (hD : d + 8 ≤ D) : am_Ev D 81 (sl + 1) xs (8, [(0, .retAddr 0), (1, .ref 0)], [], (W9 N C E F P Q), k, n) (.inl (some (.int (am_bz rv))), W9 N' C' E' F' P' Q', k', n') := by
  unfold f_law8 at h
  refine am_ev_st 1 (f' := (9, [(0, .retAddr 0), (1, .ref 0)], [.ref 0], (W9 N C E F P Q), k, n)) (g := True ∧ True) (by with_unfolding_all rfl) ⟨trivial, trivial⟩ ?_
  replace h := Option.bind_eq_some_iff.mp h
  obtain ⟨⟨r1, N_1, C_1, E_1, F_1, Q_1, ⟨k_1, n_1⟩⟩, hc1, h⟩ := h
  try dsimp only at h
  refine am_ev_call (.invokestatic 47) 80 2 624 [.ref 0] [] rfl rfl rfl rfl (ok_fL_world hc1 D (by omega)) rfl ?_
  refine am_ev_st 4 (f' := am_br (r1 = (19 : Int32)) 21 16 [(2, .int r1), (0, .retAddr 0), (1, .ref 0)] [] (W9 N_1 C_1 E_1 F_1 P Q_1) k_1 n_1) (g := True ∧ True ∧ True ∧ True ∧ True) (by with_unfolding_all rfl) ⟨trivial, trivial, trivial, trivial, trivial⟩ ?_
  by_cases c2 : r1 = (19 : Int32)
  · rw [if_pos c2] at h
    refine am_ev_pos c2 ?_
    refine am_ev_st 2 (f' := (23, [(3, .int (0 : Int32)), (2, .int r1), (0, .retAddr 0), (1, .ref 0)], [], (W9 N_1 C_1 E_1 F_1 P Q_1), k_1, n_1)) (g := True ∧ True ∧ True) (by with_unfolding_all rfl) ⟨trivial, trivial, trivial⟩ ?_
    refine am_ev_drop [2, 3, 0] rfl rfl ?_
    exact ok_lp_f_law_23 h D hD
  · rw [if_neg c2] at h
    refine am_ev_neg c2 ?_
    refine am_ev_st 1 (f' := (20, [(2, .int r1), (0, .retAddr 0), (1, .ref 0)], [.int (0 : Int32)], (W9 N_1 C_1 E_1 F_1 P Q_1), k_1, n_1)) (g := True ∧ True) (by with_unfolding_all rfl) ⟨trivial, trivial⟩ ?_
    cases h
    exact am_ev_ret 0 0 0 rfl .boolean rfl am_n0 rfl
