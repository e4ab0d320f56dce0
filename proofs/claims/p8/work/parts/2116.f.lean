def fM_at_P (P : cP) (p1 : Int32) : Option (Int32) :=
  if p1 < 0 then
  (some (-1 : Int32))
  else
  match P with
  | (pr, pl, px) =>
  if pl ≤ p1 then
  (some (-1 : Int32))
  else
  if (60 : Int32) ≤ p1 then
  (some (-1 : Int32))
  else
  if (p1 < 0 ∨ 60 ≤ (p1).toNatClampNeg) then none else
  some (pr (p1).toNatClampNeg)
set_option maxHeartbeats 4000000 in
set_option maxRecDepth 100000 in
theorem ok_fM_at_P  {N : cN} {C : cC} {E : cE} {F : cF} {P : cP} {Q : cQ} {T : cT} {G : cG} {U : cU} {H : cH} {B : cB} {O : cO} {J : cJ} {V : cV} {Y : cY} {Z : cZ} {O9 : cO9} {k n : Nat} {p1 : Int32} {rv : Int32} (h : fM_at_P P p1 = some rv) (D : Nat) (hD : 1 ≤ D) : am_Call D 19 [.ref 15, .int p1] (W9 N C E F P Q T G U H B O J V Y Z O9) k n (.inl (some (.int rv)), W9 N C E F P Q T G U H B O J V Y Z O9, k, n) := by
  unfold fM_at_P at h
  obtain ⟨D, rfl⟩ : ∃ D', D = D' + 1 := ⟨D - 1, by omega⟩
  have hD : 0 ≤ D := by omega
  refine am_call_run (by decide) (by decide) rfl (Nat.le_of_ble_eq_true rfl) (by decide) (L := [(0, .ref 15), (1, .int p1)]) rfl ?_
  refine am_ev_st 2 (f' := am_br (p1 < 0) 27 1 [(0, .ref 15), (1, .int p1)] [] (W9 N C E F P Q T G U H B O J V Y Z O9) k n) (g := True ∧ True ∧ True) (by with_unfolding_all rfl) ⟨trivial, trivial, trivial⟩ ?_
  by_cases c1 : p1 < 0
  · rw [if_pos c1] at h
    refine am_ev_pos c1 ?_
    refine am_ev_st 1 (f' := (28, [(0, .ref 15), (1, .int p1)], [.int (-1 : Int32)], (W9 N C E F P Q T G U H B O J V Y Z O9), k, n)) (g := True ∧ True) (by with_unfolding_all rfl) ⟨trivial, trivial⟩ ?_
    cases h
    exact am_ev_ret 0 0 0 rfl .int rfl rfl rfl
  · rw [if_neg c1] at h
    refine am_ev_neg c1 ?_
    obtain ⟨pr, pl, px⟩ := P
    try dsimp only at h
    refine am_ev_st 4 (f' := am_br (pl ≤ p1) 27 9 [(0, .ref 15), (1, .int p1)] [] (W9 N C E F (pr, pl, px) Q T G U H B O J V Y Z O9) k n) (g := True ∧ True ∧ True ∧ True ∧ True) (by with_unfolding_all rfl) ⟨trivial, trivial, trivial, trivial, trivial⟩ ?_
    by_cases c2 : pl ≤ p1
    · rw [if_pos c2] at h
      refine am_ev_pos c2 ?_
      refine am_ev_st 1 (f' := (28, [(0, .ref 15), (1, .int p1)], [.int (-1 : Int32)], (W9 N C E F (pr, pl, px) Q T G U H B O J V Y Z O9), k, n)) (g := True ∧ True) (by with_unfolding_all rfl) ⟨trivial, trivial⟩ ?_
      cases h
      exact am_ev_ret 0 0 0 rfl .int rfl rfl rfl
    · rw [if_neg c2] at h
      refine am_ev_neg c2 ?_
      refine am_ev_st 3 (f' := am_br ((60 : Int32) ≤ p1) 27 15 [(0, .ref 15), (1, .int p1)] [] (W9 N C E F (pr, pl, px) Q T G U H B O J V Y Z O9) k n) (g := True ∧ True ∧ True ∧ True) (by with_unfolding_all rfl) ⟨trivial, trivial, trivial, trivial⟩ ?_
      by_cases c3 : (60 : Int32) ≤ p1
      · rw [if_pos c3] at h
        refine am_ev_pos c3 ?_
        refine am_ev_st 1 (f' := (28, [(0, .ref 15), (1, .int p1)], [.int (-1 : Int32)], (W9 N C E F (pr, pl, px) Q T G U H B O J V Y Z O9), k, n)) (g := True ∧ True) (by with_unfolding_all rfl) ⟨trivial, trivial⟩ ?_
        cases h
        exact am_ev_ret 0 0 0 rfl .int rfl rfl rfl
      · rw [if_neg c3] at h
        refine am_ev_neg c3 ?_
        by_cases g4 : (p1 < 0 ∨ 60 ≤ (p1).toNatClampNeg)
        · rw [if_pos g4] at h; cases h
        rw [if_neg g4] at h
        refine am_ev_st 5 (f' := (28, [(0, .ref 15), (1, .int p1)], [.int (pr (p1).toNatClampNeg)], (W9 N C E F (pr, pl, px) Q T G U H B O J V Y Z O9), k, n)) (g := True ∧ True ∧ True ∧ vp_in (p1) 60 ∧ True ∧ True) (by with_unfolding_all rfl) ⟨trivial, trivial, trivial, g4, trivial, trivial⟩ ?_
        cases h
        exact am_ev_ret 0 0 0 rfl .int rfl rfl rfl
def fJ_mark (P : cP) (p1 : Int32) : Option (Int32) :=
  (fM_at_P P p1).bind fun z1 =>
  match z1 with
  | (r1) =>
  some r1
set_option maxHeartbeats 4000000 in
set_option maxRecDepth 100000 in
theorem ok_fJ_mark  {N : cN} {C : cC} {E : cE} {F : cF} {P : cP} {Q : cQ} {T : cT} {G : cG} {U : cU} {H : cH} {B : cB} {O : cO} {J : cJ} {V : cV} {Y : cY} {Z : cZ} {O9 : cO9} {k n : Nat} {p1 : Int32} {rv : Int32} (h : fJ_mark P p1 = some rv) (D : Nat) (hD : 2 ≤ D) : am_Call D 68 [.ref 0, .int p1] (W9 N C E F P Q T G U H B O J V Y Z O9) k n (.inl (some (.int rv)), W9 N C E F P Q T G U H B O J V Y Z O9, k, n) := by
  unfold fJ_mark at h
  obtain ⟨D, rfl⟩ : ∃ D', D = D' + 1 := ⟨D - 1, by omega⟩
  have hD : 1 ≤ D := by omega
  refine am_call_run (by decide) (by decide) rfl (Nat.le_of_ble_eq_true rfl) (by decide) (L := [(0, .ref 0), (1, .int p1)]) rfl ?_
  refine am_ev_st 3 (f' := (5, [(0, .ref 0), (1, .int p1)], [.int p1, .ref 15], (W9 N C E F P Q T G U H B O J V Y Z O9), k, n)) (g := True ∧ True ∧ True ∧ True) (by with_unfolding_all rfl) ⟨trivial, trivial, trivial, trivial⟩ ?_
  replace h := Option.bind_eq_some_iff.mp h
  obtain ⟨r1, hc1, h⟩ := h
  try dsimp only at h
  refine am_ev_call (.invokevirtual 137) 19 2 317 [.ref 15, .int p1] [] rfl rfl rfl rfl (ok_fM_at_P hc1 D (by omega)) rfl ?_
  cases h
  exact am_ev_ret 0 0 0 rfl .int rfl rfl rfl
def fM_isEmpty_P (P : cP) : Option (Bool) :=
  match P with
  | (pr, pl, px) =>
  if pl ≠ 0 then
  (some false)
  else
  some true
set_option maxHeartbeats 4000000 in
set_option maxRecDepth 100000 in
theorem ok_fM_isEmpty_P  {N : cN} {C : cC} {E : cE} {F : cF} {P : cP} {Q : cQ} {T : cT} {G : cG} {U : cU} {H : cH} {B : cB} {O : cO} {J : cJ} {V : cV} {Y : cY} {Z : cZ} {O9 : cO9} {k n : Nat} {rv : Bool} (h : fM_isEmpty_P P = some rv) (D : Nat) (hD : 1 ≤ D) : am_Call D 18 [.ref 15] (W9 N C E F P Q T G U H B O J V Y Z O9) k n (.inl (some (.int (am_bz rv))), W9 N C E F P Q T G U H B O J V Y Z O9, k, n) := by
  unfold fM_isEmpty_P at h
  obtain ⟨D, rfl⟩ : ∃ D', D = D' + 1 := ⟨D - 1, by omega⟩
  have hD : 0 ≤ D := by omega
  refine am_call_run (by decide) (by decide) rfl (Nat.le_of_ble_eq_true rfl) (by decide) (L := [(0, .ref 15)]) rfl ?_
  obtain ⟨pr, pl, px⟩ := P
  try dsimp only at h
  refine am_ev_st 3 (f' := am_br (pl ≠ 0) 11 4 [(0, .ref 15)] [] (W9 N C E F (pr, pl, px) Q T G U H B O J V Y Z O9) k n) (g := True ∧ True ∧ True ∧ True) (by with_unfolding_all rfl) ⟨trivial, trivial, trivial, trivial⟩ ?_
  by_cases c1 : pl ≠ 0
  · rw [if_pos c1] at h
    refine am_ev_pos c1 ?_
    refine am_ev_st 1 (f' := (12, [(0, .ref 15)], [.int (0 : Int32)], (W9 N C E F (pr, pl, px) Q T G U H B O J V Y Z O9), k, n)) (g := True ∧ True) (by with_unfolding_all rfl) ⟨trivial, trivial⟩ ?_
    cases h
    exact am_ev_ret 0 0 0 rfl .boolean rfl am_n0 rfl
  · rw [if_neg c1] at h
    refine am_ev_neg c1 ?_
    refine am_ev_st 2 (f' := (12, [(0, .ref 15)], [.int (1 : Int32)], (W9 N C E F (pr, pl, px) Q T G U H B O J V Y Z O9), k, n)) (g := True ∧ True ∧ True) (by with_unfolding_all rfl) ⟨trivial, trivial, trivial⟩ ?_
    cases h
    exact am_ev_ret 0 0 0 rfl .boolean rfl am_n1 rfl
def lp_fM_hasTooGreat_P_2 (fl : Nat) : Nat → cP → Int32 → Int32 → Option (Bool)
  | 0, _, _, _ => none
  | w + 1, P, v1, v2 =>
    match P with
    | (pr, pl, px) =>
    if pl ≤ v2 then
    (some false)
    else
    (fM_at_P P v2).bind fun z2 =>
    match z2 with
    | (r2) =>
    if (r2 - r2 / (10 : Int32) * (10 : Int32)) ≠ v1 then
    (lp_fM_hasTooGreat_P_2 fl w P v1 (v2 + (1 : Int32)))
    else
    (fM_at_P P v2).bind fun z4 =>
    match z4 with
    | (r4) =>
    if (r4 / (10 : Int32)) ≤ (9 : Int32) then
    (lp_fM_hasTooGreat_P_2 fl w P v1 (v2 + (1 : Int32)))
    else
    some true
def fM_hasTooGreat_P (fl : Nat) (P : cP) (p1 : Int32) : Option (Bool) :=
  lp_fM_hasTooGreat_P_2 fl fl P p1 (0 : Int32)
set_option maxHeartbeats 4000000 in
set_option maxRecDepth 100000 in
theorem ok_lp_fM_hasTooGreat_P_2 {fl : Nat} : ∀ {w : Nat} {N : cN} {C : cC} {E : cE} {F : cF} {P : cP} {Q : cQ} {T : cT} {G : cG} {U : cU} {H : cH} {B : cB} {O : cO} {J : cJ} {V : cV} {Y : cY} {Z : cZ} {O9 : cO9} {k n : Nat} {v1 : Int32} {v2 : Int32} {rv : Bool} (h : lp_fM_hasTooGreat_P_2 fl w P v1 v2 = some rv) (D : Nat) (hD : 1 ≤ D), am_Ev D 20 0 (fun _ => 0) (2, [(0, .ref 15), (1, .int v1), (2, .int v2)], [], (W9 N C E F P Q T G U H B O J V Y Z O9), k, n) (.inl (some (.int (am_bz rv))), W9 N C E F P Q T G U H B O J V Y Z O9, k, n) := by
  intro w
  induction w with
  | zero => intros; rename_i h _ _; cases h
  | succ w ih0 =>
    intro N C E F P Q T G U H B O J V Y Z O9 k n v1 v2 rv h D hD
    have ih := fun {N} {C} {E} {F} {P} {Q} {T} {G} {U} {H} {B} {O} {J} {V} {Y} {Z} {O9} {k} {n} {v1} {v2} {rv} h => @ih0 N C E F P Q T G U H B O J V Y Z O9 k n v1 v2 rv h D hD
    unfold lp_fM_hasTooGreat_P_2 at h
    obtain ⟨pr, pl, px⟩ := P
    try dsimp only at h
    refine am_ev_st 4 (f' := am_br (pl ≤ v2) 43 7 [(0, .ref 15), (1, .int v1), (2, .int v2)] [] (W9 N C E F (pr, pl, px) Q T G U H B O J V Y Z O9) k n) (g := True ∧ True ∧ True ∧ True ∧ True) (by with_unfolding_all rfl) ⟨trivial, trivial, trivial, trivial, trivial⟩ ?_
    by_cases c1 : pl ≤ v2
    · rw [if_pos c1] at h
      refine am_ev_pos c1 ?_
      refine am_ev_st 1 (f' := (44, [(0, .ref 15), (1, .int v1), (2, .int v2)], [.int (0 : Int32)], (W9 N C E F (pr, pl, px) Q T G U H B O J V Y Z O9), k, n)) (g := True ∧ True) (by with_unfolding_all rfl) ⟨trivial, trivial⟩ ?_
      cases h
      exact am_ev_ret 0 0 0 rfl .boolean rfl am_n0 rfl
    · rw [if_neg c1] at h
      refine am_ev_neg c1 ?_
      refine am_ev_st 2 (f' := (12, [(0, .ref 15), (1, .int v1), (2, .int v2)], [.int v2, .ref 15], (W9 N C E F (pr, pl, px) Q T G U H B O J V Y Z O9), k, n)) (g := True ∧ True ∧ True) (by with_unfolding_all rfl) ⟨trivial, trivial, trivial⟩ ?_
      replace h := Option.bind_eq_some_iff.mp h
      obtain ⟨r2, hc2, h⟩ := h
      try dsimp only at h
      refine am_ev_call (.invokevirtual 22) 19 2 333 [.ref 15, .int v2] [] rfl rfl rfl rfl (ok_fM_at_P hc2 D (by omega)) rfl ?_
      refine am_ev_st 4 (f' := am_br ((r2 - r2 / (10 : Int32) * (10 : Int32)) ≠ v1) 37 19 [(0, .ref 15), (1, .int v1), (2, .int v2)] [] (W9 N C E F (pr, pl, px) Q T G U H B O J V Y Z O9) k n) (g := True ∧ ¬ ((10 : Int32) = 0) ∧ True ∧ True ∧ True) (by with_unfolding_all rfl) ⟨trivial, by decide, trivial, trivial, trivial⟩ ?_
      by_cases c3 : (r2 - r2 / (10 : Int32) * (10 : Int32)) ≠ v1
      · rw [if_pos c3] at h
        refine am_ev_pos c3 ?_
        refine am_ev_st 2 (f' := (2, [(2, .int (v2 + (1 : Int32))), (0, .ref 15), (1, .int v1)], [], (W9 N C E F (pr, pl, px) Q T G U H B O J V Y Z O9), k, n)) (g := True ∧ True ∧ True) (by with_unfolding_all rfl) ⟨trivial, trivial, trivial⟩ ?_
        refine am_ev_drop [1, 2, 0] rfl rfl ?_
        exact ih h
      · rw [if_neg c3] at h
        refine am_ev_neg c3 ?_
        refine am_ev_st 2 (f' := (24, [(0, .ref 15), (1, .int v1), (2, .int v2)], [.int v2, .ref 15], (W9 N C E F (pr, pl, px) Q T G U H B O J V Y Z O9), k, n)) (g := True ∧ True ∧ True) (by with_unfolding_all rfl) ⟨trivial, trivial, trivial⟩ ?_
        replace h := Option.bind_eq_some_iff.mp h
        obtain ⟨r4, hc4, h⟩ := h
        try dsimp only at h
        refine am_ev_call (.invokevirtual 22) 19 2 333 [.ref 15, .int v2] [] rfl rfl rfl rfl (ok_fM_at_P hc4 D (by omega)) rfl ?_
        refine am_ev_st 4 (f' := am_br ((r4 / (10 : Int32)) ≤ (9 : Int32)) 37 32 [(0, .ref 15), (1, .int v1), (2, .int v2)] [] (W9 N C E F (pr, pl, px) Q T G U H B O J V Y Z O9) k n) (g := True ∧ ¬ ((10 : Int32) = 0) ∧ True ∧ True ∧ True) (by with_unfolding_all rfl) ⟨trivial, by decide, trivial, trivial, trivial⟩ ?_
        by_cases c5 : (r4 / (10 : Int32)) ≤ (9 : Int32)
        · rw [if_pos c5] at h
          refine am_ev_pos c5 ?_
          refine am_ev_st 2 (f' := (2, [(2, .int (v2 + (1 : Int32))), (0, .ref 15), (1, .int v1)], [], (W9 N C E F (pr, pl, px) Q T G U H B O J V Y Z O9), k, n)) (g := True ∧ True ∧ True) (by with_unfolding_all rfl) ⟨trivial, trivial, trivial⟩ ?_
          refine am_ev_drop [1, 2, 0] rfl rfl ?_
          exact ih h
        · rw [if_neg c5] at h
          refine am_ev_neg c5 ?_
          refine am_ev_st 1 (f' := (36, [(0, .ref 15), (1, .int v1), (2, .int v2)], [.int (1 : Int32)], (W9 N C E F (pr, pl, px) Q T G U H B O J V Y Z O9), k, n)) (g := True ∧ True) (by with_unfolding_all rfl) ⟨trivial, trivial⟩ ?_
          cases h
          exact am_ev_ret 0 0 0 rfl .boolean rfl am_n1 rfl
set_option maxHeartbeats 4000000 in
set_option maxRecDepth 100000 in
theorem ok_fM_hasTooGreat_P {fl : Nat} {N : cN} {C : cC} {E : cE} {F : cF} {P : cP} {Q : cQ} {T : cT} {G : cG} {U : cU} {H : cH} {B : cB} {O : cO} {J : cJ} {V : cV} {Y : cY} {Z : cZ} {O9 : cO9} {k n : Nat} {p1 : Int32} {rv : Bool} (h : fM_hasTooGreat_P fl P p1 = some rv) (D : Nat) (hD : 2 ≤ D) : am_Call D 20 [.ref 15, .int p1] (W9 N C E F P Q T G U H B O J V Y Z O9) k n (.inl (some (.int (am_bz rv))), W9 N C E F P Q T G U H B O J V Y Z O9, k, n) := by
  unfold fM_hasTooGreat_P at h
  obtain ⟨D, rfl⟩ : ∃ D', D = D' + 1 := ⟨D - 1, by omega⟩
  have hD : 1 ≤ D := by omega
  refine am_call_run (by decide) (by decide) rfl (Nat.le_of_ble_eq_true rfl) (by decide) (L := [(0, .ref 15), (1, .int p1)]) rfl ?_
  refine am_ev_st 2 (f' := (2, [(2, .int (0 : Int32)), (0, .ref 15), (1, .int p1)], [], (W9 N C E F P Q T G U H B O J V Y Z O9), k, n)) (g := True ∧ True ∧ True) (by with_unfolding_all rfl) ⟨trivial, trivial, trivial⟩ ?_
  refine am_ev_drop [1, 2, 0] rfl rfl ?_
  exact ok_lp_fM_hasTooGreat_P_2 h D hD
def fM_readNode_P (fl : Nat) : Nat → cN → cP → Nat → Nat → Int32 → Option (Int32 × cN × cP × (Nat × Nat))
  | 0, _, _, _, _, _ => none
  | d + 1, N, P, k, n, p2 =>
    match P with
    | (pr, pl, px) =>
    (fM_at_P P px).bind fun z1 =>
    match z1 with
    | (r1) =>
    if r1 ≠ (-1 : Int32) then
    ((fJ_hasParts (r1 - r1 / (10 : Int32) * (10 : Int32))).bind fun z3 =>
    match z3 with
    | (r3) =>
    if (am_bz r3) = 0 then
    (if p2 = 0 then
    ((fN_add N k n (r1 - r1 / (10 : Int32) * (10 : Int32)) (r1 / (10 : Int32)) (-1 : Int32)).bind fun z6 =>
    match z6 with
    | (r6, N_6, (k_6, n_6)) =>
    some (r6, N_6, (pr, pl, (px + (1 : Int32))), (k_6, n_6)))
    else
    (fN_termLike fl N (r1 - r1 / (10 : Int32) * (10 : Int32)) (r1 / (10 : Int32)) (-1 : Int32)).bind fun z7 =>
    match z7 with
    | (r7, N_7) =>
    some (r7, N_7, (pr, pl, (px + (1 : Int32))), (k, n)))
    else
    (fM_readNode_P fl d N (pr, pl, (px + (1 : Int32))) k n p2).bind fun z8 =>
    match z8 with
    | (r8, N_8, P_8, (k_8, n_8)) =>
    if r8 ≠ (-1 : Int32) then
    ((fM_readNode_P fl d N_8 P_8 k_8 n_8 p2).bind fun z10 =>
    match z10 with
    | (r10, N_10, P_10, (k_10, n_10)) =>
    if r10 ≠ (-1 : Int32) then
    (if p2 = 0 then
    ((fN_add N_10 k_10 n_10 (r1 - r1 / (10 : Int32) * (10 : Int32)) r8 r10).bind fun z13 =>
    match z13 with
    | (r13, N_13, (k_13, n_13)) =>
    some (r13, N_13, P_10, (k_13, n_13)))
    else
    (fN_termLike fl N_10 (r1 - r1 / (10 : Int32) * (10 : Int32)) r8 r10).bind fun z14 =>
    match z14 with
    | (r14, N_14) =>
    some (r14, N_14, P_10, (k_10, n_10)))
    else
    some ((-1 : Int32), N_10, P_10, (k_10, n_10)))
    else
    if (-1 : Int32) ≠ (-1 : Int32) then
    (if p2 = 0 then
    ((fN_add N_8 k_8 n_8 (r1 - r1 / (10 : Int32) * (10 : Int32)) r8 (-1 : Int32)).bind fun z17 =>
    match z17 with
    | (r17, N_17, (k_17, n_17)) =>
    some (r17, N_17, P_8, (k_17, n_17)))
    else
    (fN_termLike fl N_8 (r1 - r1 / (10 : Int32) * (10 : Int32)) r8 (-1 : Int32)).bind fun z18 =>
    match z18 with
    | (r18, N_18) =>
    some (r18, N_18, P_8, (k_8, n_8)))
    else
    some ((-1 : Int32), N_8, P_8, (k_8, n_8)))
    else
    some ((-1 : Int32), N, P, (k, n))
set_option maxHeartbeats 4000000 in
set_option maxRecDepth 100000 in
theorem ok_fM_readNode_P {fl : Nat} : ∀ {d : Nat} {N : cN} {C : cC} {E : cE} {F : cF} {P : cP} {Q : cQ} {T : cT} {G : cG} {U : cU} {H : cH} {B : cB} {O : cO} {J : cJ} {V : cV} {Y : cY} {Z : cZ} {O9 : cO9} {k n : Nat} {p2 : Int32} {rv : Int32} {N' : cN} {P' : cP} {k' n' : Nat} (h : fM_readNode_P fl d N P k n p2 = some (rv, N', P', (k', n'))) (D : Nat) (hD : d + 3 ≤ D), am_Call D 24 [.ref 15, .ref 1, .int p2] (W9 N C E F P Q T G U H B O J V Y Z O9) k n (.inl (some (.int rv)), W9 N' C E F P' Q T G U H B O J V Y Z O9, k', n') := by
  intro d
  induction d with
  | zero => intros; rename_i h _ _; cases h
  | succ d ih0 =>
    intro N C E F P Q T G U H B O J V Y Z O9 k n p2 rv N' P' k' n' h D hD
    have ih := fun {N} {C} {E} {F} {P} {Q} {T} {G} {U} {H} {B} {O} {J} {V} {Y} {Z} {O9} {k} {n} {p2} {rv} {N'} {P'} {k'} {n'} h D hD => @ih0 N C E F P Q T G U H B O J V Y Z O9 k n p2 rv N' P' k' n' h D hD
    unfold fM_readNode_P at h
    obtain ⟨D, rfl⟩ : ∃ D', D = D' + 1 := ⟨D - 1, by omega⟩
    refine am_call_run (by decide) (by decide) rfl (Nat.le_of_ble_eq_true rfl) (by decide) (L := [(0, .ref 15), (1, .ref 1), (2, .int p2)]) rfl ?_
    obtain ⟨pr, pl, px⟩ := P
    try dsimp only at h
    refine am_ev_st 3 (f' := (5, [(0, .ref 15), (1, .ref 1), (2, .int p2)], [.int px, .ref 15], (W9 N C E F (pr, pl, px) Q T G U H B O J V Y Z O9), k, n)) (g := True ∧ True ∧ True ∧ True) (by with_unfolding_all rfl) ⟨trivial, trivial, trivial, trivial⟩ ?_
    replace h := Option.bind_eq_some_iff.mp h
    obtain ⟨r1, hc1, h⟩ := h
    try dsimp only at h
    refine am_ev_call (.invokevirtual 22) 19 2 333 [.ref 15, .int px] [] rfl rfl rfl rfl (ok_fM_at_P hc1 D (by omega)) rfl ?_
    refine am_ev_st 4 (f' := am_br (r1 ≠ (-1 : Int32)) 16 11 [(3, .int r1), (0, .ref 15), (1, .ref 1), (2, .int p2)] [] (W9 N C E F (pr, pl, px) Q T G U H B O J V Y Z O9) k n) (g := True ∧ True ∧ True ∧ True ∧ True) (by with_unfolding_all rfl) ⟨trivial, trivial, trivial, trivial, trivial⟩ ?_
    by_cases c2 : r1 ≠ (-1 : Int32)
    · rw [if_pos c2] at h
      refine am_ev_pos c2 ?_
      refine am_ev_st 17 (f' := (43, [(6, .int (-1 : Int32)), (5, .int (r1 / (10 : Int32))), (4, .int (r1 - r1 / (10 : Int32) * (10 : Int32))), (3, .int r1), (0, .ref 15), (1, .ref 1), (2, .int p2)], [.int (r1 - r1 / (10 : Int32) * (10 : Int32))], (W9 N C E F (pr, pl, (px + (1 : Int32))) Q T G U H B O J V Y Z O9), k, n)) (g := True ∧ True ∧ True ∧ True ∧ True ∧ True ∧ True ∧ True ∧ ¬ ((10 : Int32) = 0) ∧ True ∧ True ∧ True ∧ ¬ ((10 : Int32) = 0) ∧ True ∧ True ∧ True ∧ True ∧ True) (by with_unfolding_all rfl) ⟨trivial, trivial, trivial, trivial, trivial, trivial, trivial, trivial, by decide, trivial, trivial, trivial, by decide, trivial, trivial, trivial, trivial, trivial⟩ ?_
      replace h := Option.bind_eq_some_iff.mp h
      obtain ⟨r3, hc3, h⟩ := h
      try dsimp only at h
      refine am_ev_call (.invokestatic 35) 71 3 310 [.int (r1 - r1 / (10 : Int32) * (10 : Int32))] [] rfl rfl rfl rfl (ok_fJ_hasParts hc3 D (by omega)) rfl ?_
      refine am_ev_st 1 (f' := am_br ((am_bz r3) = 0) 83 46 [(6, .int (-1 : Int32)), (5, .int (r1 / (10 : Int32))), (4, .int (r1 - r1 / (10 : Int32) * (10 : Int32))), (3, .int r1), (0, .ref 15), (1, .ref 1), (2, .int p2)] [] (W9 N C E F (pr, pl, (px + (1 : Int32))) Q T G U H B O J V Y Z O9) k n) (g := True ∧ True) (by with_unfolding_all rfl) ⟨trivial, trivial⟩ ?_
      by_cases c4 : (am_bz r3) = 0
      · rw [if_pos c4] at h
        refine am_ev_pos c4 ?_
        refine am_ev_st 2 (f' := am_br (p2 = 0) 100 84 [(6, .int (-1 : Int32)), (5, .int (r1 / (10 : Int32))), (4, .int (r1 - r1 / (10 : Int32) * (10 : Int32))), (3, .int r1), (0, .ref 15), (1, .ref 1), (2, .int p2)] [] (W9 N C E F (pr, pl, (px + (1 : Int32))) Q T G U H B O J V Y Z O9) k n) (g := True ∧ True ∧ True) (by with_unfolding_all rfl) ⟨trivial, trivial, trivial⟩ ?_
        by_cases c5 : p2 = 0
        · rw [if_pos c5] at h
          refine am_ev_pos c5 ?_
          refine am_ev_st 4 (f' := (107, [(6, .int (-1 : Int32)), (5, .int (r1 / (10 : Int32))), (4, .int (r1 - r1 / (10 : Int32) * (10 : Int32))), (3, .int r1), (0, .ref 15), (1, .ref 1), (2, .int p2)], [.int (-1 : Int32), .int (r1 / (10 : Int32)), .int (r1 - r1 / (10 : Int32) * (10 : Int32)), .ref 1], (W9 N C E F (pr, pl, (px + (1 : Int32))) Q T G U H B O J V Y Z O9), k, n)) (g := True ∧ True ∧ True ∧ True ∧ True) (by with_unfolding_all rfl) ⟨trivial, trivial, trivial, trivial, trivial⟩ ?_
          replace h := Option.bind_eq_some_iff.mp h
          obtain ⟨⟨r6, N_6, ⟨k_6, n_6⟩⟩, hc6, h⟩ := h
          try dsimp only at h
          refine am_ev_call (.invokevirtual 53) 38 6 350 [.ref 1, .int (r1 - r1 / (10 : Int32) * (10 : Int32)), .int (r1 / (10 : Int32)), .int (-1 : Int32)] [] rfl rfl rfl rfl (ok_fN_add hc6 D (by omega)) rfl ?_
          cases h
          exact am_ev_ret 0 0 0 rfl .int rfl rfl rfl
        · rw [if_neg c5] at h
          refine am_ev_neg c5 ?_
          refine am_ev_st 4 (f' := (94, [(6, .int (-1 : Int32)), (5, .int (r1 / (10 : Int32))), (4, .int (r1 - r1 / (10 : Int32) * (10 : Int32))), (3, .int r1), (0, .ref 15), (1, .ref 1), (2, .int p2)], [.int (-1 : Int32), .int (r1 / (10 : Int32)), .int (r1 - r1 / (10 : Int32) * (10 : Int32)), .ref 1], (W9 N C E F (pr, pl, (px + (1 : Int32))) Q T G U H B O J V Y Z O9), k, n)) (g := True ∧ True ∧ True ∧ True ∧ True) (by with_unfolding_all rfl) ⟨trivial, trivial, trivial, trivial, trivial⟩ ?_
          replace h := Option.bind_eq_some_iff.mp h
          obtain ⟨⟨r7, N_7⟩, hc7, h⟩ := h
          try dsimp only at h
          refine am_ev_call (.invokevirtual 49) 36 6 342 [.ref 1, .int (r1 - r1 / (10 : Int32) * (10 : Int32)), .int (r1 / (10 : Int32)), .int (-1 : Int32)] [] rfl rfl rfl rfl (ok_fN_termLike hc7 D (by omega)) rfl ?_
          refine am_ev_st 1 (f' := (110, [(6, .int (-1 : Int32)), (5, .int (r1 / (10 : Int32))), (4, .int (r1 - r1 / (10 : Int32) * (10 : Int32))), (3, .int r1), (0, .ref 15), (1, .ref 1), (2, .int p2)], [.int r7], (W9 N_7 C E F (pr, pl, (px + (1 : Int32))) Q T G U H B O J V Y Z O9), k, n)) (g := True ∧ True) (by with_unfolding_all rfl) ⟨trivial, trivial⟩ ?_
          cases h
          exact am_ev_ret 0 0 0 rfl .int rfl rfl rfl
      · rw [if_neg c4] at h
        refine am_ev_neg c4 ?_
        refine am_ev_st 3 (f' := (52, [(6, .int (-1 : Int32)), (5, .int (r1 / (10 : Int32))), (4, .int (r1 - r1 / (10 : Int32) * (10 : Int32))), (3, .int r1), (0, .ref 15), (1, .ref 1), (2, .int p2)], [.int p2, .ref 1, .ref 15], (W9 N C E F (pr, pl, (px + (1 : Int32))) Q T G U H B O J V Y Z O9), k, n)) (g := True ∧ True ∧ True ∧ True) (by with_unfolding_all rfl) ⟨trivial, trivial, trivial, trivial⟩ ?_
        replace h := Option.bind_eq_some_iff.mp h
        obtain ⟨⟨r8, N_8, P_8, ⟨k_8, n_8⟩⟩, hc8, h⟩ := h
        try dsimp only at h
        refine am_ev_call (.invokevirtual 45) 24 4 338 [.ref 15, .ref 1, .int p2] [] rfl rfl rfl rfl (ih hc8 D (by omega)) rfl ?_
        refine am_ev_st 4 (f' := am_br (r8 ≠ (-1 : Int32)) 67 60 [(5, .int r8), (6, .int (-1 : Int32)), (4, .int (r1 - r1 / (10 : Int32) * (10 : Int32))), (3, .int r1), (0, .ref 15), (1, .ref 1), (2, .int p2)] [] (W9 N_8 C E F P_8 Q T G U H B O J V Y Z O9) k_8 n_8) (g := True ∧ True ∧ True ∧ True ∧ True) (by with_unfolding_all rfl) ⟨trivial, trivial, trivial, trivial, trivial⟩ ?_
        by_cases c9 : r8 ≠ (-1 : Int32)
        · rw [if_pos c9] at h
          refine am_ev_pos c9 ?_
          refine am_ev_st 3 (f' := (70, [(5, .int r8), (6, .int (-1 : Int32)), (4, .int (r1 - r1 / (10 : Int32) * (10 : Int32))), (3, .int r1), (0, .ref 15), (1, .ref 1), (2, .int p2)], [.int p2, .ref 1, .ref 15], (W9 N_8 C E F P_8 Q T G U H B O J V Y Z O9), k_8, n_8)) (g := True ∧ True ∧ True ∧ True) (by with_unfolding_all rfl) ⟨trivial, trivial, trivial, trivial⟩ ?_
          replace h := Option.bind_eq_some_iff.mp h
          obtain ⟨⟨r10, N_10, P_10, ⟨k_10, n_10⟩⟩, hc10, h⟩ := h
          try dsimp only at h
          refine am_ev_call (.invokevirtual 45) 24 4 338 [.ref 15, .ref 1, .int p2] [] rfl rfl rfl rfl (ih hc10 D (by omega)) rfl ?_
          refine am_ev_st 4 (f' := am_br (r10 ≠ (-1 : Int32)) 83 78 [(6, .int r10), (5, .int r8), (4, .int (r1 - r1 / (10 : Int32) * (10 : Int32))), (3, .int r1), (0, .ref 15), (1, .ref 1), (2, .int p2)] [] (W9 N_10 C E F P_10 Q T G U H B O J V Y Z O9) k_10 n_10) (g := True ∧ True ∧ True ∧ True ∧ True) (by with_unfolding_all rfl) ⟨trivial, trivial, trivial, trivial, trivial⟩ ?_
          by_cases c11 : r10 ≠ (-1 : Int32)
          · rw [if_pos c11] at h
            refine am_ev_pos c11 ?_
            refine am_ev_st 2 (f' := am_br (p2 = 0) 100 84 [(6, .int r10), (5, .int r8), (4, .int (r1 - r1 / (10 : Int32) * (10 : Int32))), (3, .int r1), (0, .ref 15), (1, .ref 1), (2, .int p2)] [] (W9 N_10 C E F P_10 Q T G U H B O J V Y Z O9) k_10 n_10) (g := True ∧ True ∧ True) (by with_unfolding_all rfl) ⟨trivial, trivial, trivial⟩ ?_
            by_cases c12 : p2 = 0
            · rw [if_pos c12] at h
              refine am_ev_pos c12 ?_
              refine am_ev_st 4 (f' := (107, [(6, .int r10), (5, .int r8), (4, .int (r1 - r1 / (10 : Int32) * (10 : Int32))), (3, .int r1), (0, .ref 15), (1, .ref 1), (2, .int p2)], [.int r10, .int r8, .int (r1 - r1 / (10 : Int32) * (10 : Int32)), .ref 1], (W9 N_10 C E F P_10 Q T G U H B O J V Y Z O9), k_10, n_10)) (g := True ∧ True ∧ True ∧ True ∧ True) (by with_unfolding_all rfl) ⟨trivial, trivial, trivial, trivial, trivial⟩ ?_
              replace h := Option.bind_eq_some_iff.mp h
              obtain ⟨⟨r13, N_13, ⟨k_13, n_13⟩⟩, hc13, h⟩ := h
              try dsimp only at h
              refine am_ev_call (.invokevirtual 53) 38 6 350 [.ref 1, .int (r1 - r1 / (10 : Int32) * (10 : Int32)), .int r8, .int r10] [] rfl rfl rfl rfl (ok_fN_add hc13 D (by omega)) rfl ?_
              cases h
              exact am_ev_ret 0 0 0 rfl .int rfl rfl rfl
            · rw [if_neg c12] at h
              refine am_ev_neg c12 ?_
              refine am_ev_st 4 (f' := (94, [(6, .int r10), (5, .int r8), (4, .int (r1 - r1 / (10 : Int32) * (10 : Int32))), (3, .int r1), (0, .ref 15), (1, .ref 1), (2, .int p2)], [.int r10, .int r8, .int (r1 - r1 / (10 : Int32) * (10 : Int32)), .ref 1], (W9 N_10 C E F P_10 Q T G U H B O J V Y Z O9), k_10, n_10)) (g := True ∧ True ∧ True ∧ True ∧ True) (by with_unfolding_all rfl) ⟨trivial, trivial, trivial, trivial, trivial⟩ ?_
              replace h := Option.bind_eq_some_iff.mp h
              obtain ⟨⟨r14, N_14⟩, hc14, h⟩ := h
              try dsimp only at h
              refine am_ev_call (.invokevirtual 49) 36 6 342 [.ref 1, .int (r1 - r1 / (10 : Int32) * (10 : Int32)), .int r8, .int r10] [] rfl rfl rfl rfl (ok_fN_termLike hc14 D (by omega)) rfl ?_
              refine am_ev_st 1 (f' := (110, [(6, .int r10), (5, .int r8), (4, .int (r1 - r1 / (10 : Int32) * (10 : Int32))), (3, .int r1), (0, .ref 15), (1, .ref 1), (2, .int p2)], [.int r14], (W9 N_14 C E F P_10 Q T G U H B O J V Y Z O9), k_10, n_10)) (g := True ∧ True) (by with_unfolding_all rfl) ⟨trivial, trivial⟩ ?_
              cases h
              exact am_ev_ret 0 0 0 rfl .int rfl rfl rfl
          · rw [if_neg c11] at h
            refine am_ev_neg c11 ?_
            refine am_ev_st 1 (f' := (82, [(6, .int r10), (5, .int r8), (4, .int (r1 - r1 / (10 : Int32) * (10 : Int32))), (3, .int r1), (0, .ref 15), (1, .ref 1), (2, .int p2)], [.int (-1 : Int32)], (W9 N_10 C E F P_10 Q T G U H B O J V Y Z O9), k_10, n_10)) (g := True ∧ True) (by with_unfolding_all rfl) ⟨trivial, trivial⟩ ?_
            cases h
            exact am_ev_ret 0 0 0 rfl .int rfl rfl rfl
        · rw [if_neg c9] at h
          refine am_ev_neg c9 ?_
          refine am_ev_st 6 (f' := am_br ((-1 : Int32) ≠ (-1 : Int32)) 83 78 [(6, .int (-1 : Int32)), (5, .int r8), (4, .int (r1 - r1 / (10 : Int32) * (10 : Int32))), (3, .int r1), (0, .ref 15), (1, .ref 1), (2, .int p2)] [] (W9 N_8 C E F P_8 Q T G U H B O J V Y Z O9) k_8 n_8) (g := True ∧ True ∧ True ∧ True ∧ True ∧ True ∧ True) (by with_unfolding_all rfl) ⟨trivial, trivial, trivial, trivial, trivial, trivial, trivial⟩ ?_
          by_cases c15 : (-1 : Int32) ≠ (-1 : Int32)
          · rw [if_pos c15] at h
            refine am_ev_pos c15 ?_
            refine am_ev_st 2 (f' := am_br (p2 = 0) 100 84 [(6, .int (-1 : Int32)), (5, .int r8), (4, .int (r1 - r1 / (10 : Int32) * (10 : Int32))), (3, .int r1), (0, .ref 15), (1, .ref 1), (2, .int p2)] [] (W9 N_8 C E F P_8 Q T G U H B O J V Y Z O9) k_8 n_8) (g := True ∧ True ∧ True) (by with_unfolding_all rfl) ⟨trivial, trivial, trivial⟩ ?_
            by_cases c16 : p2 = 0
            · rw [if_pos c16] at h
              refine am_ev_pos c16 ?_
              refine am_ev_st 4 (f' := (107, [(6, .int (-1 : Int32)), (5, .int r8), (4, .int (r1 - r1 / (10 : Int32) * (10 : Int32))), (3, .int r1), (0, .ref 15), (1, .ref 1), (2, .int p2)], [.int (-1 : Int32), .int r8, .int (r1 - r1 / (10 : Int32) * (10 : Int32)), .ref 1], (W9 N_8 C E F P_8 Q T G U H B O J V Y Z O9), k_8, n_8)) (g := True ∧ True ∧ True ∧ True ∧ True) (by with_unfolding_all rfl) ⟨trivial, trivial, trivial, trivial, trivial⟩ ?_
              replace h := Option.bind_eq_some_iff.mp h
              obtain ⟨⟨r17, N_17, ⟨k_17, n_17⟩⟩, hc17, h⟩ := h
              try dsimp only at h
              refine am_ev_call (.invokevirtual 53) 38 6 350 [.ref 1, .int (r1 - r1 / (10 : Int32) * (10 : Int32)), .int r8, .int (-1 : Int32)] [] rfl rfl rfl rfl (ok_fN_add hc17 D (by omega)) rfl ?_
              cases h
              exact am_ev_ret 0 0 0 rfl .int rfl rfl rfl
            · rw [if_neg c16] at h
              refine am_ev_neg c16 ?_
              refine am_ev_st 4 (f' := (94, [(6, .int (-1 : Int32)), (5, .int r8), (4, .int (r1 - r1 / (10 : Int32) * (10 : Int32))), (3, .int r1), (0, .ref 15), (1, .ref 1), (2, .int p2)], [.int (-1 : Int32), .int r8, .int (r1 - r1 / (10 : Int32) * (10 : Int32)), .ref 1], (W9 N_8 C E F P_8 Q T G U H B O J V Y Z O9), k_8, n_8)) (g := True ∧ True ∧ True ∧ True ∧ True) (by with_unfolding_all rfl) ⟨trivial, trivial, trivial, trivial, trivial⟩ ?_
              replace h := Option.bind_eq_some_iff.mp h
              obtain ⟨⟨r18, N_18⟩, hc18, h⟩ := h
              try dsimp only at h
              refine am_ev_call (.invokevirtual 49) 36 6 342 [.ref 1, .int (r1 - r1 / (10 : Int32) * (10 : Int32)), .int r8, .int (-1 : Int32)] [] rfl rfl rfl rfl (ok_fN_termLike hc18 D (by omega)) rfl ?_
              refine am_ev_st 1 (f' := (110, [(6, .int (-1 : Int32)), (5, .int r8), (4, .int (r1 - r1 / (10 : Int32) * (10 : Int32))), (3, .int r1), (0, .ref 15), (1, .ref 1), (2, .int p2)], [.int r18], (W9 N_18 C E F P_8 Q T G U H B O J V Y Z O9), k_8, n_8)) (g := True ∧ True) (by with_unfolding_all rfl) ⟨trivial, trivial⟩ ?_
              cases h
              exact am_ev_ret 0 0 0 rfl .int rfl rfl rfl
          · rw [if_neg c15] at h
            refine am_ev_neg c15 ?_
            refine am_ev_st 1 (f' := (82, [(6, .int (-1 : Int32)), (5, .int r8), (4, .int (r1 - r1 / (10 : Int32) * (10 : Int32))), (3, .int r1), (0, .ref 15), (1, .ref 1), (2, .int p2)], [.int (-1 : Int32)], (W9 N_8 C E F P_8 Q T G U H B O J V Y Z O9), k_8, n_8)) (g := True ∧ True) (by with_unfolding_all rfl) ⟨trivial, trivial⟩ ?_
            cases h
            exact am_ev_ret 0 0 0 rfl .int rfl rfl rfl
    · rw [if_neg c2] at h
      refine am_ev_neg c2 ?_
      refine am_ev_st 1 (f' := (15, [(3, .int r1), (0, .ref 15), (1, .ref 1), (2, .int p2)], [.int (-1 : Int32)], (W9 N C E F (pr, pl, px) Q T G U H B O J V Y Z O9), k, n)) (g := True ∧ True) (by with_unfolding_all rfl) ⟨trivial, trivial⟩ ?_
      cases h
      exact am_ev_ret 0 0 0 rfl .int rfl rfl rfl
def fM_read_P (fl : Nat) (d : Nat) (N : cN) (P : cP) (k n : Nat) (p2 : Int32) : Option (Int32 × cN × cP × (Nat × Nat)) :=
  match P with
  | (pr, pl, px) =>
  (fM_readNode_P fl d N (pr, pl, (0 : Int32)) k n p2).bind fun z1 =>
  match z1 with
  | (r1, N_1, P_1, (k_1, n_1)) =>
  some (r1, N_1, P_1, (k_1, n_1))
set_option maxHeartbeats 4000000 in
set_option maxRecDepth 100000 in
theorem ok_fM_read_P {fl d : Nat} {N : cN} {C : cC} {E : cE} {F : cF} {P : cP} {Q : cQ} {T : cT} {G : cG} {U : cU} {H : cH} {B : cB} {O : cO} {J : cJ} {V : cV} {Y : cY} {Z : cZ} {O9 : cO9} {k n : Nat} {p2 : Int32} {rv : Int32} {N' : cN} {P' : cP} {k' n' : Nat} (h : fM_read_P fl d N P k n p2 = some (rv, N', P', (k', n'))) (D : Nat) (hD : d + 4 ≤ D) : am_Call D 23 [.ref 15, .ref 1, .int p2] (W9 N C E F P Q T G U H B O J V Y Z O9) k n (.inl (some (.int rv)), W9 N' C E F P' Q T G U H B O J V Y Z O9, k', n') := by
  unfold fM_read_P at h
  obtain ⟨D, rfl⟩ : ∃ D', D = D' + 1 := ⟨D - 1, by omega⟩
  have hD : d + 3 ≤ D := by omega
  refine am_call_run (by decide) (by decide) rfl (Nat.le_of_ble_eq_true rfl) (by decide) (L := [(0, .ref 15), (1, .ref 1), (2, .int p2)]) rfl ?_
  obtain ⟨pr, pl, px⟩ := P
  try dsimp only at h
  refine am_ev_st 6 (f' := (8, [(0, .ref 15), (1, .ref 1), (2, .int p2)], [.int p2, .ref 1, .ref 15], (W9 N C E F (pr, pl, (0 : Int32)) Q T G U H B O J V Y Z O9), k, n)) (g := True ∧ True ∧ True ∧ True ∧ True ∧ True ∧ True) (by with_unfolding_all rfl) ⟨trivial, trivial, trivial, trivial, trivial, trivial, trivial⟩ ?_
  replace h := Option.bind_eq_some_iff.mp h
  obtain ⟨⟨r1, N_1, P_1, ⟨k_1, n_1⟩⟩, hc1, h⟩ := h
  try dsimp only at h
  refine am_ev_call (.invokevirtual 45) 24 4 338 [.ref 15, .ref 1, .int p2] [] rfl rfl rfl rfl (ok_fM_readNode_P hc1 D (by omega)) rfl ?_
  cases h
  exact am_ev_ret 0 0 0 rfl .int rfl rfl rfl
def fN_cutTerms (N : cN) (p1 : Int32) : Option (cN) :=
  match N with
  | (nK, nL, nR, nS, nD, cap, mt, le, en) =>
  some (nK, nL, nR, nS, nD, cap, p1, le, en)
set_option maxHeartbeats 4000000 in
set_option maxRecDepth 100000 in
theorem ok_fN_cutTerms  {N : cN} {C : cC} {E : cE} {F : cF} {P : cP} {Q : cQ} {T : cT} {G : cG} {U : cU} {H : cH} {B : cB} {O : cO} {J : cJ} {V : cV} {Y : cY} {Z : cZ} {O9 : cO9} {k n : Nat} {p1 : Int32} {N' : cN} (h : fN_cutTerms N p1 = some N') (D : Nat) (hD : 1 ≤ D) : am_Call D 37 [.ref 1, .int p1] (W9 N C E F P Q T G U H B O J V Y Z O9) k n (.inl none, W9 N' C E F P Q T G U H B O J V Y Z O9, k, n) := by
  unfold fN_cutTerms at h
  obtain ⟨D, rfl⟩ : ∃ D', D = D' + 1 := ⟨D - 1, by omega⟩
  have hD : 0 ≤ D := by omega
  refine am_call_run (by decide) (by decide) rfl (Nat.le_of_ble_eq_true rfl) (by decide) (L := [(0, .ref 1), (1, .int p1)]) rfl ?_
  obtain ⟨nK, nL, nR, nS, nD, cap, mt, le, en⟩ := N
  try dsimp only at h
  refine am_ev_st 3 (f' := (5, [(0, .ref 1), (1, .int p1)], [], (W9 (nK, nL, nR, nS, nD, cap, p1, le, en) C E F P Q T G U H B O J V Y Z O9), k, n)) (g := True ∧ True ∧ True ∧ True) (by with_unfolding_all rfl) ⟨trivial, trivial, trivial, trivial⟩ ?_
  cases h
  exact am_ev_vret 0 0 0 rfl rfl rfl
def fJ_keep (fl : Nat) (d : Nat) (N : cN) (P : cP) (k n : Nat) : Option (Int32 × cN × cP × (Nat × Nat)) :=
  (fM_isEmpty_P P).bind fun z1 =>
  match z1 with
  | (r1) =>
  if (am_bz r1) ≠ 0 then
  (some ((-1 : Int32), N, P, (k, n)))
  else
  (fM_hasTooGreat_P fl P (1 : Int32)).bind fun z3 =>
  match z3 with
  | (r3) =>
  if (am_bz r3) ≠ 0 then
  (some ((-1 : Int32), N, P, (k, n)))
  else
  (fM_hasTooGreat_P fl P (0 : Int32)).bind fun z5 =>
  match z5 with
  | (r5) =>
  if (am_bz r5) = 0 then
  ((fN_termCount N).bind fun z7 =>
  match z7 with
  | (r7) =>
  (fM_read_P fl d N P k n (1 : Int32)).bind fun z8 =>
  match z8 with
  | (r8, N_8, P_8, (k_8, n_8)) =>
  if r8 ≠ (-1 : Int32) then
  (some (r8, N_8, P_8, (k_8, n_8)))
  else
  (fN_cutTerms N_8 r7).bind fun z10 =>
  match z10 with
  | (N_10) =>
  some (r8, N_10, P_8, (k_8, n_8)))
  else
  some ((-1 : Int32), N, P, (k, n))
set_option maxHeartbeats 4000000 in
set_option maxRecDepth 100000 in
theorem ok_fJ_keep {fl d : Nat} {N : cN} {C : cC} {E : cE} {F : cF} {P : cP} {Q : cQ} {T : cT} {G : cG} {U : cU} {H : cH} {B : cB} {O : cO} {J : cJ} {V : cV} {Y : cY} {Z : cZ} {O9 : cO9} {k n : Nat} {rv : Int32} {N' : cN} {P' : cP} {k' n' : Nat} (h : fJ_keep fl d N P k n = some (rv, N', P', (k', n'))) (D : Nat) (hD : d + 5 ≤ D) : am_Call D 69 [.ref 0] (W9 N C E F P Q T G U H B O J V Y Z O9) k n (.inl (some (.int rv)), W9 N' C E F P' Q T G U H B O J V Y Z O9, k', n') := by
  unfold fJ_keep at h
  obtain ⟨D, rfl⟩ : ∃ D', D = D' + 1 := ⟨D - 1, by omega⟩
  have hD : d + 4 ≤ D := by omega
  refine am_call_run (by decide) (by decide) rfl (Nat.le_of_ble_eq_true rfl) (by decide) (L := [(0, .ref 0)]) rfl ?_
  refine am_ev_st 2 (f' := (4, [(0, .ref 0)], [.ref 15], (W9 N C E F P Q T G U H B O J V Y Z O9), k, n)) (g := True ∧ True ∧ True) (by with_unfolding_all rfl) ⟨trivial, trivial, trivial⟩ ?_
  replace h := Option.bind_eq_some_iff.mp h
  obtain ⟨r1, hc1, h⟩ := h
  try dsimp only at h
  refine am_ev_call (.invokevirtual 140) 18 0 325 [.ref 15] [] rfl rfl rfl rfl (ok_fM_isEmpty_P hc1 D (by omega)) rfl ?_
  refine am_ev_st 1 (f' := am_br ((am_bz r1) ≠ 0) 32 7 [(0, .ref 0)] [] (W9 N C E F P Q T G U H B O J V Y Z O9) k n) (g := True ∧ True) (by with_unfolding_all rfl) ⟨trivial, trivial⟩ ?_
  by_cases c2 : (am_bz r1) ≠ 0
  · rw [if_pos c2] at h
    refine am_ev_pos c2 ?_
    refine am_ev_st 1 (f' := (33, [(0, .ref 0)], [.int (-1 : Int32)], (W9 N C E F P Q T G U H B O J V Y Z O9), k, n)) (g := True ∧ True) (by with_unfolding_all rfl) ⟨trivial, trivial⟩ ?_
    cases h
    exact am_ev_ret 0 0 0 rfl .int rfl rfl rfl
  · rw [if_neg c2] at h
    refine am_ev_neg c2 ?_
    refine am_ev_st 3 (f' := (15, [(0, .ref 0)], [.int (1 : Int32), .ref 15], (W9 N C E F P Q T G U H B O J V Y Z O9), k, n)) (g := True ∧ True ∧ True ∧ True) (by with_unfolding_all rfl) ⟨trivial, trivial, trivial, trivial⟩ ?_
    replace h := Option.bind_eq_some_iff.mp h
    obtain ⟨r3, hc3, h⟩ := h
    try dsimp only at h
    refine am_ev_call (.invokevirtual 118) 20 2 329 [.ref 15, .int (1 : Int32)] [] rfl rfl rfl rfl (ok_fM_hasTooGreat_P hc3 D (by omega)) rfl ?_
    refine am_ev_st 1 (f' := am_br ((am_bz r3) ≠ 0) 32 18 [(0, .ref 0)] [] (W9 N C E F P Q T G U H B O J V Y Z O9) k n) (g := True ∧ True) (by with_unfolding_all rfl) ⟨trivial, trivial⟩ ?_
    by_cases c4 : (am_bz r3) ≠ 0
    · rw [if_pos c4] at h
      refine am_ev_pos c4 ?_
      refine am_ev_st 1 (f' := (33, [(0, .ref 0)], [.int (-1 : Int32)], (W9 N C E F P Q T G U H B O J V Y Z O9), k, n)) (g := True ∧ True) (by with_unfolding_all rfl) ⟨trivial, trivial⟩ ?_
      cases h
      exact am_ev_ret 0 0 0 rfl .int rfl rfl rfl
    · rw [if_neg c4] at h
      refine am_ev_neg c4 ?_
      refine am_ev_st 3 (f' := (26, [(0, .ref 0)], [.int (0 : Int32), .ref 15], (W9 N C E F P Q T G U H B O J V Y Z O9), k, n)) (g := True ∧ True ∧ True ∧ True) (by with_unfolding_all rfl) ⟨trivial, trivial, trivial, trivial⟩ ?_
      replace h := Option.bind_eq_some_iff.mp h
      obtain ⟨r5, hc5, h⟩ := h
      try dsimp only at h
      refine am_ev_call (.invokevirtual 118) 20 2 329 [.ref 15, .int (0 : Int32)] [] rfl rfl rfl rfl (ok_fM_hasTooGreat_P hc5 D (by omega)) rfl ?_
      refine am_ev_st 1 (f' := am_br ((am_bz r5) = 0) 34 29 [(0, .ref 0)] [] (W9 N C E F P Q T G U H B O J V Y Z O9) k n) (g := True ∧ True) (by with_unfolding_all rfl) ⟨trivial, trivial⟩ ?_
      by_cases c6 : (am_bz r5) = 0
      · rw [if_pos c6] at h
        refine am_ev_pos c6 ?_
        refine am_ev_st 2 (f' := (38, [(0, .ref 0)], [.ref 1], (W9 N C E F P Q T G U H B O J V Y Z O9), k, n)) (g := True ∧ True ∧ True) (by with_unfolding_all rfl) ⟨trivial, trivial, trivial⟩ ?_
        replace h := Option.bind_eq_some_iff.mp h
        obtain ⟨r7, hc7, h⟩ := h
        try dsimp only at h
        refine am_ev_call (.invokevirtual 63) 26 0 254 [.ref 1] [] rfl rfl rfl rfl (ok_fN_termCount hc7 D (by omega)) rfl ?_
        refine am_ev_st 6 (f' := (51, [(1, .int r7), (0, .ref 0)], [.int (1 : Int32), .ref 1, .ref 15], (W9 N C E F P Q T G U H B O J V Y Z O9), k, n)) (g := True ∧ True ∧ True ∧ True ∧ True ∧ True ∧ True) (by with_unfolding_all rfl) ⟨trivial, trivial, trivial, trivial, trivial, trivial, trivial⟩ ?_
        replace h := Option.bind_eq_some_iff.mp h
        obtain ⟨⟨r8, N_8, P_8, ⟨k_8, n_8⟩⟩, hc8, h⟩ := h
        try dsimp only at h
        refine am_ev_call (.invokevirtual 143) 23 4 334 [.ref 15, .ref 1, .int (1 : Int32)] [] rfl rfl rfl rfl (ok_fM_read_P hc8 D (by omega)) rfl ?_
        refine am_ev_st 4 (f' := am_br (r8 ≠ (-1 : Int32)) 68 57 [(2, .int r8), (1, .int r7), (0, .ref 0)] [] (W9 N_8 C E F P_8 Q T G U H B O J V Y Z O9) k_8 n_8) (g := True ∧ True ∧ True ∧ True ∧ True) (by with_unfolding_all rfl) ⟨trivial, trivial, trivial, trivial, trivial⟩ ?_
        by_cases c9 : r8 ≠ (-1 : Int32)
        · rw [if_pos c9] at h
          refine am_ev_pos c9 ?_
          refine am_ev_st 1 (f' := (69, [(2, .int r8), (1, .int r7), (0, .ref 0)], [.int r8], (W9 N_8 C E F P_8 Q T G U H B O J V Y Z O9), k_8, n_8)) (g := True ∧ True) (by with_unfolding_all rfl) ⟨trivial, trivial⟩ ?_
          cases h
          exact am_ev_ret 0 0 0 rfl .int rfl rfl rfl
        · rw [if_neg c9] at h
          refine am_ev_neg c9 ?_
          refine am_ev_st 3 (f' := (65, [(2, .int r8), (1, .int r7), (0, .ref 0)], [.int r7, .ref 1], (W9 N_8 C E F P_8 Q T G U H B O J V Y Z O9), k_8, n_8)) (g := True ∧ True ∧ True ∧ True) (by with_unfolding_all rfl) ⟨trivial, trivial, trivial, trivial⟩ ?_
          replace h := Option.bind_eq_some_iff.mp h
          obtain ⟨N_10, hc10, h⟩ := h
          try dsimp only at h
          refine am_ev_call (.invokevirtual 147) 37 2 443 [.ref 1, .int r7] [] rfl rfl rfl rfl (ok_fN_cutTerms hc10 D (by omega)) rfl ?_
          refine am_ev_st 1 (f' := (69, [(2, .int r8), (1, .int r7), (0, .ref 0)], [.int r8], (W9 N_10 C E F P_8 Q T G U H B O J V Y Z O9), k_8, n_8)) (g := True ∧ True) (by with_unfolding_all rfl) ⟨trivial, trivial⟩ ?_
          cases h
          exact am_ev_ret 0 0 0 rfl .int rfl rfl rfl
      · rw [if_neg c6] at h
        refine am_ev_neg c6 ?_
        refine am_ev_st 1 (f' := (33, [(0, .ref 0)], [.int (-1 : Int32)], (W9 N C E F P Q T G U H B O J V Y Z O9), k, n)) (g := True ∧ True) (by with_unfolding_all rfl) ⟨trivial, trivial⟩ ?_
        cases h
        exact am_ev_ret 0 0 0 rfl .int rfl rfl rfl
def fE_madeCount (E : cE) : Option (Int32) :=
  match E with
  | (fi, se, op, fu, ma) =>
  some ma
set_option maxHeartbeats 4000000 in
set_option maxRecDepth 100000 in
theorem ok_fE_madeCount  {N : cN} {C : cC} {E : cE} {F : cF} {P : cP} {Q : cQ} {T : cT} {G : cG} {U : cU} {H : cH} {B : cB} {O : cO} {J : cJ} {V : cV} {Y : cY} {Z : cZ} {O9 : cO9} {k n : Nat} {rv : Int32} (h : fE_madeCount E = some rv) (D : Nat) (hD : 1 ≤ D) : am_Call D 47 [.ref 10] (W9 N C E F P Q T G U H B O J V Y Z O9) k n (.inl (some (.int rv)), W9 N C E F P Q T G U H B O J V Y Z O9, k, n) := by
  unfold fE_madeCount at h
  obtain ⟨D, rfl⟩ : ∃ D', D = D' + 1 := ⟨D - 1, by omega⟩
  have hD : 0 ≤ D := by omega
  refine am_call_run (by decide) (by decide) rfl (Nat.le_of_ble_eq_true rfl) (by decide) (L := [(0, .ref 10)]) rfl ?_
  obtain ⟨fi, se, op, fu, ma⟩ := E
  try dsimp only at h
  refine am_ev_st 2 (f' := (4, [(0, .ref 10)], [.int ma], (W9 N C (fi, se, op, fu, ma) F P Q T G U H B O J V Y Z O9), k, n)) (g := True ∧ True ∧ True) (by with_unfolding_all rfl) ⟨trivial, trivial, trivial⟩ ?_
  cases h
  exact am_ev_ret 0 0 0 rfl .int rfl rfl rfl
def fJ_reduced (E : cE) : Option (Int32) :=
  (fE_madeCount E).bind fun z1 =>
  match z1 with
  | (r1) =>
  some r1
set_option maxHeartbeats 4000000 in
set_option maxRecDepth 100000 in
theorem ok_fJ_reduced  {N : cN} {C : cC} {E : cE} {F : cF} {P : cP} {Q : cQ} {T : cT} {G : cG} {U : cU} {H : cH} {B : cB} {O : cO} {J : cJ} {V : cV} {Y : cY} {Z : cZ} {O9 : cO9} {k n : Nat} {rv : Int32} (h : fJ_reduced E = some rv) (D : Nat) (hD : 2 ≤ D) : am_Call D 70 [.ref 0] (W9 N C E F P Q T G U H B O J V Y Z O9) k n (.inl (some (.int rv)), W9 N C E F P Q T G U H B O J V Y Z O9, k, n) := by
  unfold fJ_reduced at h
  obtain ⟨D, rfl⟩ : ∃ D', D = D' + 1 := ⟨D - 1, by omega⟩
  have hD : 1 ≤ D := by omega
  refine am_call_run (by decide) (by decide) rfl (Nat.le_of_ble_eq_true rfl) (by decide) (L := [(0, .ref 0)]) rfl ?_
  refine am_ev_st 2 (f' := (4, [(0, .ref 0)], [.ref 10], (W9 N C E F P Q T G U H B O J V Y Z O9), k, n)) (g := True ∧ True ∧ True) (by with_unfolding_all rfl) ⟨trivial, trivial, trivial⟩ ?_
  replace h := Option.bind_eq_some_iff.mp h
  obtain ⟨r1, hc1, h⟩ := h
  try dsimp only at h
  refine am_ev_call (.invokevirtual 151) 47 0 451 [.ref 10] [] rfl rfl rfl rfl (ok_fE_madeCount hc1 D (by omega)) rfl ?_
  cases h
  exact am_ev_ret 0 0 0 rfl .int rfl rfl rfl
def fm_thrown (U : cU) : Option (Int32) :=
  some U
set_option maxHeartbeats 4000000 in
set_option maxRecDepth 100000 in
theorem ok_fm_thrown  {N : cN} {C : cC} {E : cE} {F : cF} {P : cP} {Q : cQ} {T : cT} {G : cG} {U : cU} {H : cH} {B : cB} {O : cO} {J : cJ} {V : cV} {Y : cY} {Z : cZ} {O9 : cO9} {k n : Nat} {rv : Int32} (h : fm_thrown U = some rv) (D : Nat) (hD : 1 ≤ D) : am_Call D 77 [.ref 19] (W9 N C E F P Q T G U H B O J V Y Z O9) k n (.inl (some (.int rv)), W9 N C E F P Q T G U H B O J V Y Z O9, k, n) := by
  unfold fm_thrown at h
  obtain ⟨D, rfl⟩ : ∃ D', D = D' + 1 := ⟨D - 1, by omega⟩
  have hD : 0 ≤ D := by omega
  refine am_call_run (by decide) (by decide) rfl (Nat.le_of_ble_eq_true rfl) (by decide) (L := [(0, .ref 19)]) rfl ?_
  refine am_ev_st 2 (f' := (4, [(0, .ref 19)], [.int U], (W9 N C E F P Q T G U H B O J V Y Z O9), k, n)) (g := True ∧ True ∧ True) (by with_unfolding_all rfl) ⟨trivial, trivial, trivial⟩ ?_
  cases h
  exact am_ev_ret 0 0 0 rfl .int rfl rfl rfl
