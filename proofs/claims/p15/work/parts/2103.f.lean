def fm_begin (O : cO) : Option (cO) :=
  match O with
  | (om, oo, og) =>
  some ((0 : Int32), oo, (0 : Int32))
set_option maxHeartbeats 4000000 in
set_option maxRecDepth 100000 in
theorem ok_fm_begin  {N : cN} {C : cC} {E : cE} {F : cF} {P : cP} {Q : cQ} {T : cT} {G : cG} {U : cU} {H : cH} {B : cB} {O : cO} {J : cJ} {V : cV} {Y : cY} {Z : cZ} {O9 : cO9} {k n : Nat} {O' : cO} (h : fm_begin O = some O') (D : Nat) (hD : 1 ≤ D) : am_Call D 88 [.ref 19] (W9 N C E F P Q T G U H B O J V Y Z O9) k n (.inl none, W9 N C E F P Q T G U H B O' J V Y Z O9, k, n) := by
  unfold fm_begin at h
  obtain ⟨D, rfl⟩ : ∃ D', D = D' + 1 := ⟨D - 1, by omega⟩
  have hD : 0 ≤ D := by omega
  refine am_call_run (by decide) (by decide) rfl (Nat.le_of_ble_eq_true rfl) (by decide) (L := [(0, .ref 19)]) rfl ?_
  obtain ⟨om, oo, og⟩ := O
  try dsimp only at h
  refine am_ev_st 6 (f' := (10, [(0, .ref 19)], [], (W9 N C E F P Q T G U H B ((0 : Int32), oo, (0 : Int32)) J V Y Z O9), k, n)) (g := True ∧ True ∧ True ∧ True ∧ True ∧ True ∧ True) (by with_unfolding_all rfl) ⟨trivial, trivial, trivial, trivial, trivial, trivial, trivial⟩ ?_
  cases h
  exact am_ev_vret 0 0 0 rfl rfl rfl
def fm_put (O : cO) (p1 : Int32) : Option (cO) :=
  match O with
  | (om, oo, og) =>
  if om ≠ (60 : Int32) then
  (if (om < 0 ∨ 60 ≤ (om).toNatClampNeg) then none else
  some ((om + (1 : Int32)), (upd oo (om).toNatClampNeg p1), og))
  else
  some (om, oo, (1 : Int32))
set_option maxHeartbeats 4000000 in
set_option maxRecDepth 100000 in
theorem ok_fm_put  {N : cN} {C : cC} {E : cE} {F : cF} {P : cP} {Q : cQ} {T : cT} {G : cG} {U : cU} {H : cH} {B : cB} {O : cO} {J : cJ} {V : cV} {Y : cY} {Z : cZ} {O9 : cO9} {k n : Nat} {p1 : Int32} {O' : cO} (h : fm_put O p1 = some O') (D : Nat) (hD : 1 ≤ D) : am_Call D 89 [.ref 19, .int p1] (W9 N C E F P Q T G U H B O J V Y Z O9) k n (.inl none, W9 N C E F P Q T G U H B O' J V Y Z O9, k, n) := by
  unfold fm_put at h
  obtain ⟨D, rfl⟩ : ∃ D', D = D' + 1 := ⟨D - 1, by omega⟩
  have hD : 0 ≤ D := by omega
  refine am_call_run (by decide) (by decide) rfl (Nat.le_of_ble_eq_true rfl) (by decide) (L := [(0, .ref 19), (1, .int p1)]) rfl ?_
  obtain ⟨om, oo, og⟩ := O
  try dsimp only at h
  refine am_ev_st 4 (f' := am_br (om ≠ (60 : Int32)) 15 6 [(0, .ref 19), (1, .int p1)] [] (W9 N C E F P Q T G U H B (om, oo, og) J V Y Z O9) k n) (g := True ∧ True ∧ True ∧ True ∧ True) (by with_unfolding_all rfl) ⟨trivial, trivial, trivial, trivial, trivial⟩ ?_
  by_cases c1 : om ≠ (60 : Int32)
  · rw [if_pos c1] at h
    refine am_ev_pos c1 ?_
    by_cases g2 : (om < 0 ∨ 60 ≤ (om).toNatClampNeg)
    · rw [if_pos g2] at h; cases h
    rw [if_neg g2] at h
    refine am_ev_st 12 (f' := (35, [(0, .ref 19), (1, .int p1)], [], (W9 N C E F P Q T G U H B ((om + (1 : Int32)), (upd oo (om).toNatClampNeg p1), og) J V Y Z O9), k, n)) (g := True ∧ True ∧ True ∧ True ∧ True ∧ vp_in (om) 60 ∧ True ∧ True ∧ True ∧ True ∧ True ∧ True ∧ True) (by with_unfolding_all rfl) ⟨trivial, trivial, trivial, trivial, trivial, g2, trivial, trivial, trivial, trivial, trivial, trivial, trivial⟩ ?_
    cases h
    exact am_ev_vret 0 0 0 rfl rfl rfl
  · rw [if_neg c1] at h
    refine am_ev_neg c1 ?_
    refine am_ev_st 3 (f' := (14, [(0, .ref 19), (1, .int p1)], [], (W9 N C E F P Q T G U H B (om, oo, (1 : Int32)) J V Y Z O9), k, n)) (g := True ∧ True ∧ True ∧ True) (by with_unfolding_all rfl) ⟨trivial, trivial, trivial, trivial⟩ ?_
    cases h
    exact am_ev_vret 0 0 0 rfl rfl rfl
def lp_fm_putAll_3 (fl : Nat) : Nat → cB → cO → Int32 → Int32 → Int32 → Int32 → Option (cO)
  | 0, _, _, _, _, _, _ => none
  | w + 1, B, O, v1, v2, v3, v4 =>
    if v3 ≤ v4 then
    (some O)
    else
    match O with
    | (om, oo, og) =>
    if og ≠ 0 then
    (some O)
    else
    (fm_at B v1 v4).bind fun z3 =>
    match z3 with
    | (r3) =>
    (fm_put O r3).bind fun z4 =>
    match z4 with
    | (O_4) =>
    lp_fm_putAll_3 fl w B O_4 v1 v2 v3 (v4 + (1 : Int32))
def fm_putAll (fl : Nat) (B : cB) (O : cO) (p1 p2 p3 : Int32) : Option (cO) :=
  lp_fm_putAll_3 fl fl B O p1 p2 p3 p2
set_option maxHeartbeats 4000000 in
set_option maxRecDepth 100000 in
theorem ok_lp_fm_putAll_3 {fl : Nat} : ∀ {w : Nat} {N : cN} {C : cC} {E : cE} {F : cF} {P : cP} {Q : cQ} {T : cT} {G : cG} {U : cU} {H : cH} {B : cB} {O : cO} {J : cJ} {V : cV} {Y : cY} {Z : cZ} {O9 : cO9} {k n : Nat} {v1 : Int32} {v2 : Int32} {v3 : Int32} {v4 : Int32} {O' : cO} (h : lp_fm_putAll_3 fl w B O v1 v2 v3 v4 = some O') (D : Nat) (hD : 1 ≤ D), am_Ev D 90 0 (fun _ => 0) (3, [(0, .ref 19), (1, .int v1), (2, .int v2), (3, .int v3), (4, .int v4)], [], (W9 N C E F P Q T G U H B O J V Y Z O9), k, n) (.inl none, W9 N C E F P Q T G U H B O' J V Y Z O9, k, n) := by
  intro w
  induction w with
  | zero => intros; rename_i h _ _; cases h
  | succ w ih0 =>
    intro N C E F P Q T G U H B O J V Y Z O9 k n v1 v2 v3 v4 O' h D hD
    have ih := fun {N} {C} {E} {F} {P} {Q} {T} {G} {U} {H} {B} {O} {J} {V} {Y} {Z} {O9} {k} {n} {v1} {v2} {v3} {v4} {O'} h => @ih0 N C E F P Q T G U H B O J V Y Z O9 k n v1 v2 v3 v4 O' h D hD
    unfold lp_fm_putAll_3 at h
    refine am_ev_st 3 (f' := am_br (v3 ≤ v4) 33 6 [(0, .ref 19), (1, .int v1), (2, .int v2), (3, .int v3), (4, .int v4)] [] (W9 N C E F P Q T G U H B O J V Y Z O9) k n) (g := True ∧ True ∧ True ∧ True) (by with_unfolding_all rfl) ⟨trivial, trivial, trivial, trivial⟩ ?_
    by_cases c1 : v3 ≤ v4
    · rw [if_pos c1] at h
      refine am_ev_pos c1 ?_
      cases h
      exact am_ev_vret 0 0 0 rfl rfl rfl
    · rw [if_neg c1] at h
      refine am_ev_neg c1 ?_
      obtain ⟨om, oo, og⟩ := O
      try dsimp only at h
      refine am_ev_st 3 (f' := am_br (og ≠ 0) 33 13 [(0, .ref 19), (1, .int v1), (2, .int v2), (3, .int v3), (4, .int v4)] [] (W9 N C E F P Q T G U H B (om, oo, og) J V Y Z O9) k n) (g := True ∧ True ∧ True ∧ True) (by with_unfolding_all rfl) ⟨trivial, trivial, trivial, trivial⟩ ?_
      by_cases c2 : og ≠ 0
      · rw [if_pos c2] at h
        refine am_ev_pos c2 ?_
        cases h
        exact am_ev_vret 0 0 0 rfl rfl rfl
      · rw [if_neg c2] at h
        refine am_ev_neg c2 ?_
        refine am_ev_st 4 (f' := (21, [(0, .ref 19), (1, .int v1), (2, .int v2), (3, .int v3), (4, .int v4)], [.int v4, .int v1, .ref 19, .ref 19], (W9 N C E F P Q T G U H B (om, oo, og) J V Y Z O9), k, n)) (g := True ∧ True ∧ True ∧ True ∧ True) (by with_unfolding_all rfl) ⟨trivial, trivial, trivial, trivial, trivial⟩ ?_
        replace h := Option.bind_eq_some_iff.mp h
        obtain ⟨r3, hc3, h⟩ := h
        try dsimp only at h
        refine am_ev_call (.invokevirtual 69) 81 4 820 [.ref 19, .int v1, .int v4] [.ref 19] rfl rfl rfl rfl (ok_fm_at hc3 D (by omega)) rfl ?_
        replace h := Option.bind_eq_some_iff.mp h
        obtain ⟨O_4, hc4, h⟩ := h
        try dsimp only at h
        refine am_ev_call (.invokevirtual 94) 89 2 873 [.ref 19, .int r3] [] rfl rfl rfl rfl (ok_fm_put hc4 D (by omega)) rfl ?_
        refine am_ev_st 2 (f' := (3, [(4, .int (v4 + (1 : Int32))), (0, .ref 19), (1, .int v1), (2, .int v2), (3, .int v3)], [], (W9 N C E F P Q T G U H B O_4 J V Y Z O9), k, n)) (g := True ∧ True ∧ True) (by with_unfolding_all rfl) ⟨trivial, trivial, trivial⟩ ?_
        refine am_ev_drop [1, 2, 3, 4, 0] rfl rfl ?_
        exact ih h
set_option maxHeartbeats 4000000 in
set_option maxRecDepth 100000 in
theorem ok_fm_putAll {fl : Nat} {N : cN} {C : cC} {E : cE} {F : cF} {P : cP} {Q : cQ} {T : cT} {G : cG} {U : cU} {H : cH} {B : cB} {O : cO} {J : cJ} {V : cV} {Y : cY} {Z : cZ} {O9 : cO9} {k n : Nat} {p1 p2 p3 : Int32} {O' : cO} (h : fm_putAll fl B O p1 p2 p3 = some O') (D : Nat) (hD : 2 ≤ D) : am_Call D 90 [.ref 19, .int p1, .int p2, .int p3] (W9 N C E F P Q T G U H B O J V Y Z O9) k n (.inl none, W9 N C E F P Q T G U H B O' J V Y Z O9, k, n) := by
  unfold fm_putAll at h
  obtain ⟨D, rfl⟩ : ∃ D', D = D' + 1 := ⟨D - 1, by omega⟩
  have hD : 1 ≤ D := by omega
  refine am_call_run (by decide) (by decide) rfl (Nat.le_of_ble_eq_true rfl) (by decide) (L := [(0, .ref 19), (1, .int p1), (2, .int p2), (3, .int p3)]) rfl ?_
  refine am_ev_st 2 (f' := (3, [(4, .int p2), (0, .ref 19), (1, .int p1), (2, .int p2), (3, .int p3)], [], (W9 N C E F P Q T G U H B O J V Y Z O9), k, n)) (g := True ∧ True ∧ True) (by with_unfolding_all rfl) ⟨trivial, trivial, trivial⟩ ?_
  refine am_ev_drop [1, 2, 3, 4, 0] rfl rfl ?_
  exact ok_lp_fm_putAll_3 h D hD
def lp_fm_putRaised_13 (fl : Nat) : Nat → cB → cO → cJ → Int32 → Int32 → Int32 → Int32 → Int32 → Int32 → Option (cO × cJ)
  | 0, _, _, _, _, _, _, _, _, _ => none
  | w + 1, B, O, J, v1, v2, v3, v4, v5, v6 =>
    if v3 ≤ v6 then
    (some (O, J))
    else
    match O with
    | (om, oo, og) =>
    if og ≠ 0 then
    (some (O, J))
    else
    match J with
    | (jp, ji) =>
    if ((v5 + (-1 : Int32)) < 0 ∨ 130 ≤ ((v5 + (-1 : Int32))).toNatClampNeg) then none else
    (fm_at B v1 v6).bind fun z5 =>
    match z5 with
    | (r5) =>
    (fm_kindOf r5).bind fun z6 =>
    match z6 with
    | (r6) =>
    if r6 ≠ 0 then
    ((fm_put O r5).bind fun z8 =>
    match z8 with
    | (O_8) =>
    (fm_hasParts r5).bind fun z9 =>
    match z9 with
    | (r9) =>
    if (am_bz r9) ≠ 0 then
    ((fm_bindsIn r5).bind fun z11 =>
    match z11 with
    | (r11) =>
    if (am_bz r11) = 0 then
    (if ((v5 + (-1 : Int32)) < 0 ∨ 130 ≤ ((v5 + (-1 : Int32))).toNatClampNeg) then none else
    if (((v5 + (-1 : Int32)) + (1 : Int32)) < 0 ∨ 130 ≤ (((v5 + (-1 : Int32)) + (1 : Int32))).toNatClampNeg) then none else
    lp_fm_putRaised_13 fl w B O_8 (jp, (upd (upd ji ((v5 + (-1 : Int32))).toNatClampNeg (ji ((v5 + (-1 : Int32))).toNatClampNeg)) (((v5 + (-1 : Int32)) + (1 : Int32))).toNatClampNeg (ji ((v5 + (-1 : Int32))).toNatClampNeg))) v1 v2 v3 v4 ((v5 + (-1 : Int32)) + (2 : Int32)) (v6 + (1 : Int32)))
    else
    if ((v5 + (-1 : Int32)) < 0 ∨ 130 ≤ ((v5 + (-1 : Int32))).toNatClampNeg) then none else
    if (((v5 + (-1 : Int32)) + (1 : Int32)) < 0 ∨ 130 ≤ (((v5 + (-1 : Int32)) + (1 : Int32))).toNatClampNeg) then none else
    lp_fm_putRaised_13 fl w B O_8 (jp, (upd (upd ji ((v5 + (-1 : Int32))).toNatClampNeg ((ji ((v5 + (-1 : Int32))).toNatClampNeg) + (1 : Int32))) (((v5 + (-1 : Int32)) + (1 : Int32))).toNatClampNeg (ji ((v5 + (-1 : Int32))).toNatClampNeg))) v1 v2 v3 v4 ((v5 + (-1 : Int32)) + (2 : Int32)) (v6 + (1 : Int32)))
    else
    lp_fm_putRaised_13 fl w B O_8 J v1 v2 v3 v4 (v5 + (-1 : Int32)) (v6 + (1 : Int32)))
    else
    if (r5 / (10 : Int32)) < (ji ((v5 + (-1 : Int32))).toNatClampNeg) then
    ((fm_put O r5).bind fun z18 =>
    match z18 with
    | (O_18) =>
    (fm_hasParts r5).bind fun z19 =>
    match z19 with
    | (r19) =>
    if (am_bz r19) ≠ 0 then
    ((fm_bindsIn r5).bind fun z21 =>
    match z21 with
    | (r21) =>
    if (am_bz r21) = 0 then
    (if ((v5 + (-1 : Int32)) < 0 ∨ 130 ≤ ((v5 + (-1 : Int32))).toNatClampNeg) then none else
    if (((v5 + (-1 : Int32)) + (1 : Int32)) < 0 ∨ 130 ≤ (((v5 + (-1 : Int32)) + (1 : Int32))).toNatClampNeg) then none else
    lp_fm_putRaised_13 fl w B O_18 (jp, (upd (upd ji ((v5 + (-1 : Int32))).toNatClampNeg (ji ((v5 + (-1 : Int32))).toNatClampNeg)) (((v5 + (-1 : Int32)) + (1 : Int32))).toNatClampNeg (ji ((v5 + (-1 : Int32))).toNatClampNeg))) v1 v2 v3 v4 ((v5 + (-1 : Int32)) + (2 : Int32)) (v6 + (1 : Int32)))
    else
    if ((v5 + (-1 : Int32)) < 0 ∨ 130 ≤ ((v5 + (-1 : Int32))).toNatClampNeg) then none else
    if (((v5 + (-1 : Int32)) + (1 : Int32)) < 0 ∨ 130 ≤ (((v5 + (-1 : Int32)) + (1 : Int32))).toNatClampNeg) then none else
    lp_fm_putRaised_13 fl w B O_18 (jp, (upd (upd ji ((v5 + (-1 : Int32))).toNatClampNeg ((ji ((v5 + (-1 : Int32))).toNatClampNeg) + (1 : Int32))) (((v5 + (-1 : Int32)) + (1 : Int32))).toNatClampNeg (ji ((v5 + (-1 : Int32))).toNatClampNeg))) v1 v2 v3 v4 ((v5 + (-1 : Int32)) + (2 : Int32)) (v6 + (1 : Int32)))
    else
    lp_fm_putRaised_13 fl w B O_18 J v1 v2 v3 v4 (v5 + (-1 : Int32)) (v6 + (1 : Int32)))
    else
    (fm_put O (r5 + ((10 : Int32) * v4))).bind fun z27 =>
    match z27 with
    | (O_27) =>
    (fm_hasParts r5).bind fun z28 =>
    match z28 with
    | (r28) =>
    if (am_bz r28) ≠ 0 then
    ((fm_bindsIn r5).bind fun z30 =>
    match z30 with
    | (r30) =>
    if (am_bz r30) = 0 then
    (if ((v5 + (-1 : Int32)) < 0 ∨ 130 ≤ ((v5 + (-1 : Int32))).toNatClampNeg) then none else
    if (((v5 + (-1 : Int32)) + (1 : Int32)) < 0 ∨ 130 ≤ (((v5 + (-1 : Int32)) + (1 : Int32))).toNatClampNeg) then none else
    lp_fm_putRaised_13 fl w B O_27 (jp, (upd (upd ji ((v5 + (-1 : Int32))).toNatClampNeg (ji ((v5 + (-1 : Int32))).toNatClampNeg)) (((v5 + (-1 : Int32)) + (1 : Int32))).toNatClampNeg (ji ((v5 + (-1 : Int32))).toNatClampNeg))) v1 v2 v3 v4 ((v5 + (-1 : Int32)) + (2 : Int32)) (v6 + (1 : Int32)))
    else
    if ((v5 + (-1 : Int32)) < 0 ∨ 130 ≤ ((v5 + (-1 : Int32))).toNatClampNeg) then none else
    if (((v5 + (-1 : Int32)) + (1 : Int32)) < 0 ∨ 130 ≤ (((v5 + (-1 : Int32)) + (1 : Int32))).toNatClampNeg) then none else
    lp_fm_putRaised_13 fl w B O_27 (jp, (upd (upd ji ((v5 + (-1 : Int32))).toNatClampNeg ((ji ((v5 + (-1 : Int32))).toNatClampNeg) + (1 : Int32))) (((v5 + (-1 : Int32)) + (1 : Int32))).toNatClampNeg (ji ((v5 + (-1 : Int32))).toNatClampNeg))) v1 v2 v3 v4 ((v5 + (-1 : Int32)) + (2 : Int32)) (v6 + (1 : Int32)))
    else
    lp_fm_putRaised_13 fl w B O_27 J v1 v2 v3 v4 (v5 + (-1 : Int32)) (v6 + (1 : Int32))
def fm_putRaised (fl : Nat) (B : cB) (O : cO) (J : cJ) (p1 p2 p3 p4 : Int32) : Option (cO × cJ) :=
  match J with
  | (jp, ji) =>
  if ((0 : Int32) < 0 ∨ 130 ≤ ((0 : Int32)).toNatClampNeg) then none else
  lp_fm_putRaised_13 fl fl B O (jp, (upd ji ((0 : Int32)).toNatClampNeg (0 : Int32))) p1 p2 p3 p4 (1 : Int32) p2
set_option maxHeartbeats 4000000 in
set_option maxRecDepth 100000 in
theorem ok_lp_fm_putRaised_13 {fl : Nat} : ∀ {w : Nat} {N : cN} {C : cC} {E : cE} {F : cF} {P : cP} {Q : cQ} {T : cT} {G : cG} {U : cU} {H : cH} {B : cB} {O : cO} {J : cJ} {V : cV} {Y : cY} {Z : cZ} {O9 : cO9} {k n : Nat} {v1 : Int32} {v2 : Int32} {v3 : Int32} {v4 : Int32} {v5 : Int32} {v6 : Int32} {O' : cO} {J' : cJ} (h : lp_fm_putRaised_13 fl w B O J v1 v2 v3 v4 v5 v6 = some (O', J')) (D : Nat) (hD : 1 ≤ D), am_Ev D 91 0 (fun _ => 0) (13, [(0, .ref 19), (1, .int v1), (2, .int v2), (3, .int v3), (4, .int v4), (5, .int v5), (6, .int v6)], [], (W9 N C E F P Q T G U H B O J V Y Z O9), k, n) (.inl none, W9 N C E F P Q T G U H B O' J' V Y Z O9, k, n) := by
  intro w
  induction w with
  | zero => intros; rename_i h _ _; cases h
  | succ w ih0 =>
    intro N C E F P Q T G U H B O J V Y Z O9 k n v1 v2 v3 v4 v5 v6 O' J' h D hD
    have ih := fun {N} {C} {E} {F} {P} {Q} {T} {G} {U} {H} {B} {O} {J} {V} {Y} {Z} {O9} {k} {n} {v1} {v2} {v3} {v4} {v5} {v6} {O'} {J'} h => @ih0 N C E F P Q T G U H B O J V Y Z O9 k n v1 v2 v3 v4 v5 v6 O' J' h D hD
    unfold lp_fm_putRaised_13 at h
    refine am_ev_st 3 (f' := am_br (v3 ≤ v6) 137 16 [(0, .ref 19), (1, .int v1), (2, .int v2), (3, .int v3), (4, .int v4), (5, .int v5), (6, .int v6)] [] (W9 N C E F P Q T G U H B O J V Y Z O9) k n) (g := True ∧ True ∧ True ∧ True) (by with_unfolding_all rfl) ⟨trivial, trivial, trivial, trivial⟩ ?_
    by_cases c2 : v3 ≤ v6
    · rw [if_pos c2] at h
      refine am_ev_pos c2 ?_
      cases h
      exact am_ev_vret 0 0 0 rfl rfl rfl
    · rw [if_neg c2] at h
      refine am_ev_neg c2 ?_
      obtain ⟨om, oo, og⟩ := O
      try dsimp only at h
      refine am_ev_st 3 (f' := am_br (og ≠ 0) 137 23 [(0, .ref 19), (1, .int v1), (2, .int v2), (3, .int v3), (4, .int v4), (5, .int v5), (6, .int v6)] [] (W9 N C E F P Q T G U H B (om, oo, og) J V Y Z O9) k n) (g := True ∧ True ∧ True ∧ True) (by with_unfolding_all rfl) ⟨trivial, trivial, trivial, trivial⟩ ?_
      by_cases c3 : og ≠ 0
      · rw [if_pos c3] at h
        refine am_ev_pos c3 ?_
        cases h
        exact am_ev_vret 0 0 0 rfl rfl rfl
      · rw [if_neg c3] at h
        refine am_ev_neg c3 ?_
        obtain ⟨jp, ji⟩ := J
        try dsimp only at h
        by_cases g4 : ((v5 + (-1 : Int32)) < 0 ∨ 130 ≤ ((v5 + (-1 : Int32))).toNatClampNeg)
        · rw [if_pos g4] at h; cases h
        rw [if_neg g4] at h
        refine am_ev_st 9 (f' := (42, [(7, .int (ji ((v5 + (-1 : Int32))).toNatClampNeg)), (5, .int (v5 + (-1 : Int32))), (0, .ref 19), (1, .int v1), (2, .int v2), (3, .int v3), (4, .int v4), (6, .int v6)], [.int v6, .int v1, .ref 19], (W9 N C E F P Q T G U H B (om, oo, og) (jp, ji) V Y Z O9), k, n)) (g := True ∧ True ∧ True ∧ True ∧ vp_in ((v5 + (-1 : Int32))) 130 ∧ True ∧ True ∧ True ∧ True ∧ True) (by with_unfolding_all rfl) ⟨trivial, trivial, trivial, trivial, g4, trivial, trivial, trivial, trivial, trivial⟩ ?_
        replace h := Option.bind_eq_some_iff.mp h
        obtain ⟨r5, hc5, h⟩ := h
        try dsimp only at h
        refine am_ev_call (.invokevirtual 69) 81 4 820 [.ref 19, .int v1, .int v6] [] rfl rfl rfl rfl (ok_fm_at hc5 D (by omega)) rfl ?_
        refine am_ev_st 3 (f' := (50, [(8, .int r5), (7, .int (ji ((v5 + (-1 : Int32))).toNatClampNeg)), (5, .int (v5 + (-1 : Int32))), (0, .ref 19), (1, .int v1), (2, .int v2), (3, .int v3), (4, .int v4), (6, .int v6)], [.int r5, .ref 19], (W9 N C E F P Q T G U H B (om, oo, og) (jp, ji) V Y Z O9), k, n)) (g := True ∧ True ∧ True ∧ True) (by with_unfolding_all rfl) ⟨trivial, trivial, trivial, trivial⟩ ?_
        replace h := Option.bind_eq_some_iff.mp h
        obtain ⟨r6, hc6, h⟩ := h
        try dsimp only at h
        refine am_ev_call (.invokestatic 80) 78 2 824 [.int r5] [.ref 19] rfl rfl rfl rfl (ok_fm_kindOf hc6 D (by omega)) rfl ?_
        refine am_ev_st 1 (f' := am_br (r6 ≠ 0) 77 53 [(8, .int r5), (7, .int (ji ((v5 + (-1 : Int32))).toNatClampNeg)), (5, .int (v5 + (-1 : Int32))), (0, .ref 19), (1, .int v1), (2, .int v2), (3, .int v3), (4, .int v4), (6, .int v6)] [.ref 19] (W9 N C E F P Q T G U H B (om, oo, og) (jp, ji) V Y Z O9) k n) (g := True ∧ True) (by with_unfolding_all rfl) ⟨trivial, trivial⟩ ?_
        by_cases c7 : r6 ≠ 0
        · rw [if_pos c7] at h
          refine am_ev_pos c7 ?_
          refine am_ev_st 1 (f' := (79, [(8, .int r5), (7, .int (ji ((v5 + (-1 : Int32))).toNatClampNeg)), (5, .int (v5 + (-1 : Int32))), (0, .ref 19), (1, .int v1), (2, .int v2), (3, .int v3), (4, .int v4), (6, .int v6)], [.int r5, .ref 19], (W9 N C E F P Q T G U H B (om, oo, og) (jp, ji) V Y Z O9), k, n)) (g := True ∧ True) (by with_unfolding_all rfl) ⟨trivial, trivial⟩ ?_
          replace h := Option.bind_eq_some_iff.mp h
          obtain ⟨O_8, hc8, h⟩ := h
          try dsimp only at h
          refine am_ev_call (.invokevirtual 94) 89 2 873 [.ref 19, .int r5] [] rfl rfl rfl rfl (ok_fm_put hc8 D (by omega)) rfl ?_
          refine am_ev_st 1 (f' := (84, [(8, .int r5), (7, .int (ji ((v5 + (-1 : Int32))).toNatClampNeg)), (5, .int (v5 + (-1 : Int32))), (0, .ref 19), (1, .int v1), (2, .int v2), (3, .int v3), (4, .int v4), (6, .int v6)], [.int r5], (W9 N C E F P Q T G U H B O_8 (jp, ji) V Y Z O9), k, n)) (g := True ∧ True) (by with_unfolding_all rfl) ⟨trivial, trivial⟩ ?_
          replace h := Option.bind_eq_some_iff.mp h
          obtain ⟨r9, hc9, h⟩ := h
          try dsimp only at h
          refine am_ev_call (.invokestatic 73) 79 2 835 [.int r5] [] rfl rfl rfl rfl (ok_fm_hasParts hc9 D (by omega)) rfl ?_
          refine am_ev_st 1 (f' := am_br ((am_bz r9) ≠ 0) 93 87 [(8, .int r5), (7, .int (ji ((v5 + (-1 : Int32))).toNatClampNeg)), (5, .int (v5 + (-1 : Int32))), (0, .ref 19), (1, .int v1), (2, .int v2), (3, .int v3), (4, .int v4), (6, .int v6)] [] (W9 N C E F P Q T G U H B O_8 (jp, ji) V Y Z O9) k n) (g := True ∧ True) (by with_unfolding_all rfl) ⟨trivial, trivial⟩ ?_
          by_cases c10 : (am_bz r9) ≠ 0
          · rw [if_pos c10] at h
            refine am_ev_pos c10 ?_
            refine am_ev_st 4 (f' := (101, [(8, .int r5), (7, .int (ji ((v5 + (-1 : Int32))).toNatClampNeg)), (5, .int (v5 + (-1 : Int32))), (0, .ref 19), (1, .int v1), (2, .int v2), (3, .int v3), (4, .int v4), (6, .int v6)], [.int r5, .int (v5 + (-1 : Int32)), .ref 30], (W9 N C E F P Q T G U H B O_8 (jp, ji) V Y Z O9), k, n)) (g := True ∧ True ∧ True ∧ True ∧ True) (by with_unfolding_all rfl) ⟨trivial, trivial, trivial, trivial, trivial⟩ ?_
            replace h := Option.bind_eq_some_iff.mp h
            obtain ⟨r11, hc11, h⟩ := h
            try dsimp only at h
            refine am_ev_call (.invokestatic 84) 80 2 838 [.int r5] [.int (v5 + (-1 : Int32)), .ref 30] rfl rfl rfl rfl (ok_fm_bindsIn hc11 D (by omega)) rfl ?_
            refine am_ev_st 1 (f' := am_br ((am_bz r11) = 0) 114 104 [(8, .int r5), (7, .int (ji ((v5 + (-1 : Int32))).toNatClampNeg)), (5, .int (v5 + (-1 : Int32))), (0, .ref 19), (1, .int v1), (2, .int v2), (3, .int v3), (4, .int v4), (6, .int v6)] [.int (v5 + (-1 : Int32)), .ref 30] (W9 N C E F P Q T G U H B O_8 (jp, ji) V Y Z O9) k n) (g := True ∧ True) (by with_unfolding_all rfl) ⟨trivial, trivial⟩ ?_
            by_cases c12 : (am_bz r11) = 0
            · rw [if_pos c12] at h
              refine am_ev_pos c12 ?_
              by_cases g13 : ((v5 + (-1 : Int32)) < 0 ∨ 130 ≤ ((v5 + (-1 : Int32))).toNatClampNeg)
              · rw [if_pos g13] at h; cases h
              rw [if_neg g13] at h
              by_cases g14 : (((v5 + (-1 : Int32)) + (1 : Int32)) < 0 ∨ 130 ≤ (((v5 + (-1 : Int32)) + (1 : Int32))).toNatClampNeg)
              · rw [if_pos g14] at h; cases h
              rw [if_neg g14] at h
              refine am_ev_st 12 (f' := (13, [(6, .int (v6 + (1 : Int32))), (5, .int ((v5 + (-1 : Int32)) + (2 : Int32))), (8, .int r5), (7, .int (ji ((v5 + (-1 : Int32))).toNatClampNeg)), (0, .ref 19), (1, .int v1), (2, .int v2), (3, .int v3), (4, .int v4)], [], (W9 N C E F P Q T G U H B O_8 (jp, (upd (upd ji ((v5 + (-1 : Int32))).toNatClampNeg (ji ((v5 + (-1 : Int32))).toNatClampNeg)) (((v5 + (-1 : Int32)) + (1 : Int32))).toNatClampNeg (ji ((v5 + (-1 : Int32))).toNatClampNeg))) V Y Z O9), k, n)) (g := True ∧ vp_in ((v5 + (-1 : Int32))) 130 ∧ True ∧ True ∧ True ∧ True ∧ True ∧ True ∧ vp_in (((v5 + (-1 : Int32)) + (1 : Int32))) 130 ∧ True ∧ True ∧ True ∧ True) (by with_unfolding_all rfl) ⟨trivial, g13, trivial, trivial, trivial, trivial, trivial, trivial, g14, trivial, trivial, trivial, trivial⟩ ?_
              refine am_ev_drop [4, 5, 6, 7, 8, 1, 0] rfl rfl ?_
              exact ih h
            · rw [if_neg c12] at h
              refine am_ev_neg c12 ?_
              by_cases g15 : ((v5 + (-1 : Int32)) < 0 ∨ 130 ≤ ((v5 + (-1 : Int32))).toNatClampNeg)
              · rw [if_pos g15] at h; cases h
              rw [if_neg g15] at h
              by_cases g16 : (((v5 + (-1 : Int32)) + (1 : Int32)) < 0 ∨ 130 ≤ (((v5 + (-1 : Int32)) + (1 : Int32))).toNatClampNeg)
              · rw [if_pos g16] at h; cases h
              rw [if_neg g16] at h
              refine am_ev_st 15 (f' := (13, [(6, .int (v6 + (1 : Int32))), (5, .int ((v5 + (-1 : Int32)) + (2 : Int32))), (8, .int r5), (7, .int (ji ((v5 + (-1 : Int32))).toNatClampNeg)), (0, .ref 19), (1, .int v1), (2, .int v2), (3, .int v3), (4, .int v4)], [], (W9 N C E F P Q T G U H B O_8 (jp, (upd (upd ji ((v5 + (-1 : Int32))).toNatClampNeg ((ji ((v5 + (-1 : Int32))).toNatClampNeg) + (1 : Int32))) (((v5 + (-1 : Int32)) + (1 : Int32))).toNatClampNeg (ji ((v5 + (-1 : Int32))).toNatClampNeg))) V Y Z O9), k, n)) (g := True ∧ True ∧ True ∧ True ∧ vp_in ((v5 + (-1 : Int32))) 130 ∧ True ∧ True ∧ True ∧ True ∧ True ∧ True ∧ vp_in (((v5 + (-1 : Int32)) + (1 : Int32))) 130 ∧ True ∧ True ∧ True ∧ True) (by with_unfolding_all rfl) ⟨trivial, trivial, trivial, trivial, g15, trivial, trivial, trivial, trivial, trivial, trivial, g16, trivial, trivial, trivial, trivial⟩ ?_
              refine am_ev_drop [4, 5, 6, 7, 8, 1, 0] rfl rfl ?_
              exact ih h
          · rw [if_neg c10] at h
            refine am_ev_neg c10 ?_
            refine am_ev_st 3 (f' := (13, [(6, .int (v6 + (1 : Int32))), (8, .int r5), (7, .int (ji ((v5 + (-1 : Int32))).toNatClampNeg)), (5, .int (v5 + (-1 : Int32))), (0, .ref 19), (1, .int v1), (2, .int v2), (3, .int v3), (4, .int v4)], [], (W9 N C E F P Q T G U H B O_8 (jp, ji) V Y Z O9), k, n)) (g := True ∧ True ∧ True ∧ True) (by with_unfolding_all rfl) ⟨trivial, trivial, trivial, trivial⟩ ?_
            refine am_ev_drop [4, 5, 6, 7, 8, 3, 0] rfl rfl ?_
            exact ih h
        · rw [if_neg c7] at h
          refine am_ev_neg c7 ?_
          refine am_ev_st 5 (f' := am_br ((r5 / (10 : Int32)) < (ji ((v5 + (-1 : Int32))).toNatClampNeg)) 77 63 [(8, .int r5), (7, .int (ji ((v5 + (-1 : Int32))).toNatClampNeg)), (5, .int (v5 + (-1 : Int32))), (0, .ref 19), (1, .int v1), (2, .int v2), (3, .int v3), (4, .int v4), (6, .int v6)] [.ref 19] (W9 N C E F P Q T G U H B (om, oo, og) (jp, ji) V Y Z O9) k n) (g := True ∧ True ∧ ¬ ((10 : Int32) = 0) ∧ True ∧ True ∧ True) (by with_unfolding_all rfl) ⟨trivial, trivial, by decide, trivial, trivial, trivial⟩ ?_
          by_cases c17 : (r5 / (10 : Int32)) < (ji ((v5 + (-1 : Int32))).toNatClampNeg)
          · rw [if_pos c17] at h
            refine am_ev_pos c17 ?_
            refine am_ev_st 1 (f' := (79, [(8, .int r5), (7, .int (ji ((v5 + (-1 : Int32))).toNatClampNeg)), (5, .int (v5 + (-1 : Int32))), (0, .ref 19), (1, .int v1), (2, .int v2), (3, .int v3), (4, .int v4), (6, .int v6)], [.int r5, .ref 19], (W9 N C E F P Q T G U H B (om, oo, og) (jp, ji) V Y Z O9), k, n)) (g := True ∧ True) (by with_unfolding_all rfl) ⟨trivial, trivial⟩ ?_
            replace h := Option.bind_eq_some_iff.mp h
            obtain ⟨O_18, hc18, h⟩ := h
            try dsimp only at h
            refine am_ev_call (.invokevirtual 94) 89 2 873 [.ref 19, .int r5] [] rfl rfl rfl rfl (ok_fm_put hc18 D (by omega)) rfl ?_
            refine am_ev_st 1 (f' := (84, [(8, .int r5), (7, .int (ji ((v5 + (-1 : Int32))).toNatClampNeg)), (5, .int (v5 + (-1 : Int32))), (0, .ref 19), (1, .int v1), (2, .int v2), (3, .int v3), (4, .int v4), (6, .int v6)], [.int r5], (W9 N C E F P Q T G U H B O_18 (jp, ji) V Y Z O9), k, n)) (g := True ∧ True) (by with_unfolding_all rfl) ⟨trivial, trivial⟩ ?_
            replace h := Option.bind_eq_some_iff.mp h
            obtain ⟨r19, hc19, h⟩ := h
            try dsimp only at h
            refine am_ev_call (.invokestatic 73) 79 2 835 [.int r5] [] rfl rfl rfl rfl (ok_fm_hasParts hc19 D (by omega)) rfl ?_
            refine am_ev_st 1 (f' := am_br ((am_bz r19) ≠ 0) 93 87 [(8, .int r5), (7, .int (ji ((v5 + (-1 : Int32))).toNatClampNeg)), (5, .int (v5 + (-1 : Int32))), (0, .ref 19), (1, .int v1), (2, .int v2), (3, .int v3), (4, .int v4), (6, .int v6)] [] (W9 N C E F P Q T G U H B O_18 (jp, ji) V Y Z O9) k n) (g := True ∧ True) (by with_unfolding_all rfl) ⟨trivial, trivial⟩ ?_
            by_cases c20 : (am_bz r19) ≠ 0
            · rw [if_pos c20] at h
              refine am_ev_pos c20 ?_
              refine am_ev_st 4 (f' := (101, [(8, .int r5), (7, .int (ji ((v5 + (-1 : Int32))).toNatClampNeg)), (5, .int (v5 + (-1 : Int32))), (0, .ref 19), (1, .int v1), (2, .int v2), (3, .int v3), (4, .int v4), (6, .int v6)], [.int r5, .int (v5 + (-1 : Int32)), .ref 30], (W9 N C E F P Q T G U H B O_18 (jp, ji) V Y Z O9), k, n)) (g := True ∧ True ∧ True ∧ True ∧ True) (by with_unfolding_all rfl) ⟨trivial, trivial, trivial, trivial, trivial⟩ ?_
              replace h := Option.bind_eq_some_iff.mp h
              obtain ⟨r21, hc21, h⟩ := h
              try dsimp only at h
              refine am_ev_call (.invokestatic 84) 80 2 838 [.int r5] [.int (v5 + (-1 : Int32)), .ref 30] rfl rfl rfl rfl (ok_fm_bindsIn hc21 D (by omega)) rfl ?_
              refine am_ev_st 1 (f' := am_br ((am_bz r21) = 0) 114 104 [(8, .int r5), (7, .int (ji ((v5 + (-1 : Int32))).toNatClampNeg)), (5, .int (v5 + (-1 : Int32))), (0, .ref 19), (1, .int v1), (2, .int v2), (3, .int v3), (4, .int v4), (6, .int v6)] [.int (v5 + (-1 : Int32)), .ref 30] (W9 N C E F P Q T G U H B O_18 (jp, ji) V Y Z O9) k n) (g := True ∧ True) (by with_unfolding_all rfl) ⟨trivial, trivial⟩ ?_
              by_cases c22 : (am_bz r21) = 0
              · rw [if_pos c22] at h
                refine am_ev_pos c22 ?_
                by_cases g23 : ((v5 + (-1 : Int32)) < 0 ∨ 130 ≤ ((v5 + (-1 : Int32))).toNatClampNeg)
                · rw [if_pos g23] at h; cases h
                rw [if_neg g23] at h
                by_cases g24 : (((v5 + (-1 : Int32)) + (1 : Int32)) < 0 ∨ 130 ≤ (((v5 + (-1 : Int32)) + (1 : Int32))).toNatClampNeg)
                · rw [if_pos g24] at h; cases h
                rw [if_neg g24] at h
                refine am_ev_st 12 (f' := (13, [(6, .int (v6 + (1 : Int32))), (5, .int ((v5 + (-1 : Int32)) + (2 : Int32))), (8, .int r5), (7, .int (ji ((v5 + (-1 : Int32))).toNatClampNeg)), (0, .ref 19), (1, .int v1), (2, .int v2), (3, .int v3), (4, .int v4)], [], (W9 N C E F P Q T G U H B O_18 (jp, (upd (upd ji ((v5 + (-1 : Int32))).toNatClampNeg (ji ((v5 + (-1 : Int32))).toNatClampNeg)) (((v5 + (-1 : Int32)) + (1 : Int32))).toNatClampNeg (ji ((v5 + (-1 : Int32))).toNatClampNeg))) V Y Z O9), k, n)) (g := True ∧ vp_in ((v5 + (-1 : Int32))) 130 ∧ True ∧ True ∧ True ∧ True ∧ True ∧ True ∧ vp_in (((v5 + (-1 : Int32)) + (1 : Int32))) 130 ∧ True ∧ True ∧ True ∧ True) (by with_unfolding_all rfl) ⟨trivial, g23, trivial, trivial, trivial, trivial, trivial, trivial, g24, trivial, trivial, trivial, trivial⟩ ?_
                refine am_ev_drop [4, 5, 6, 7, 8, 1, 0] rfl rfl ?_
                exact ih h
              · rw [if_neg c22] at h
                refine am_ev_neg c22 ?_
                by_cases g25 : ((v5 + (-1 : Int32)) < 0 ∨ 130 ≤ ((v5 + (-1 : Int32))).toNatClampNeg)
                · rw [if_pos g25] at h; cases h
                rw [if_neg g25] at h
                by_cases g26 : (((v5 + (-1 : Int32)) + (1 : Int32)) < 0 ∨ 130 ≤ (((v5 + (-1 : Int32)) + (1 : Int32))).toNatClampNeg)
                · rw [if_pos g26] at h; cases h
                rw [if_neg g26] at h
                refine am_ev_st 15 (f' := (13, [(6, .int (v6 + (1 : Int32))), (5, .int ((v5 + (-1 : Int32)) + (2 : Int32))), (8, .int r5), (7, .int (ji ((v5 + (-1 : Int32))).toNatClampNeg)), (0, .ref 19), (1, .int v1), (2, .int v2), (3, .int v3), (4, .int v4)], [], (W9 N C E F P Q T G U H B O_18 (jp, (upd (upd ji ((v5 + (-1 : Int32))).toNatClampNeg ((ji ((v5 + (-1 : Int32))).toNatClampNeg) + (1 : Int32))) (((v5 + (-1 : Int32)) + (1 : Int32))).toNatClampNeg (ji ((v5 + (-1 : Int32))).toNatClampNeg))) V Y Z O9), k, n)) (g := True ∧ True ∧ True ∧ True ∧ vp_in ((v5 + (-1 : Int32))) 130 ∧ True ∧ True ∧ True ∧ True ∧ True ∧ True ∧ vp_in (((v5 + (-1 : Int32)) + (1 : Int32))) 130 ∧ True ∧ True ∧ True ∧ True) (by with_unfolding_all rfl) ⟨trivial, trivial, trivial, trivial, g25, trivial, trivial, trivial, trivial, trivial, trivial, g26, trivial, trivial, trivial, trivial⟩ ?_
                refine am_ev_drop [4, 5, 6, 7, 8, 1, 0] rfl rfl ?_
                exact ih h
            · rw [if_neg c20] at h
              refine am_ev_neg c20 ?_
              refine am_ev_st 3 (f' := (13, [(6, .int (v6 + (1 : Int32))), (8, .int r5), (7, .int (ji ((v5 + (-1 : Int32))).toNatClampNeg)), (5, .int (v5 + (-1 : Int32))), (0, .ref 19), (1, .int v1), (2, .int v2), (3, .int v3), (4, .int v4)], [], (W9 N C E F P Q T G U H B O_18 (jp, ji) V Y Z O9), k, n)) (g := True ∧ True ∧ True ∧ True) (by with_unfolding_all rfl) ⟨trivial, trivial, trivial, trivial⟩ ?_
              refine am_ev_drop [4, 5, 6, 7, 8, 3, 0] rfl rfl ?_
              exact ih h
          · rw [if_neg c17] at h
            refine am_ev_neg c17 ?_
            refine am_ev_st 6 (f' := (79, [(8, .int r5), (7, .int (ji ((v5 + (-1 : Int32))).toNatClampNeg)), (5, .int (v5 + (-1 : Int32))), (0, .ref 19), (1, .int v1), (2, .int v2), (3, .int v3), (4, .int v4), (6, .int v6)], [.int (r5 + ((10 : Int32) * v4)), .ref 19], (W9 N C E F P Q T G U H B (om, oo, og) (jp, ji) V Y Z O9), k, n)) (g := True ∧ True ∧ True ∧ True ∧ True ∧ True ∧ True) (by with_unfolding_all rfl) ⟨trivial, trivial, trivial, trivial, trivial, trivial, trivial⟩ ?_
            replace h := Option.bind_eq_some_iff.mp h
            obtain ⟨O_27, hc27, h⟩ := h
            try dsimp only at h
            refine am_ev_call (.invokevirtual 94) 89 2 873 [.ref 19, .int (r5 + ((10 : Int32) * v4))] [] rfl rfl rfl rfl (ok_fm_put hc27 D (by omega)) rfl ?_
            refine am_ev_st 1 (f' := (84, [(8, .int r5), (7, .int (ji ((v5 + (-1 : Int32))).toNatClampNeg)), (5, .int (v5 + (-1 : Int32))), (0, .ref 19), (1, .int v1), (2, .int v2), (3, .int v3), (4, .int v4), (6, .int v6)], [.int r5], (W9 N C E F P Q T G U H B O_27 (jp, ji) V Y Z O9), k, n)) (g := True ∧ True) (by with_unfolding_all rfl) ⟨trivial, trivial⟩ ?_
            replace h := Option.bind_eq_some_iff.mp h
            obtain ⟨r28, hc28, h⟩ := h
            try dsimp only at h
            refine am_ev_call (.invokestatic 73) 79 2 835 [.int r5] [] rfl rfl rfl rfl (ok_fm_hasParts hc28 D (by omega)) rfl ?_
            refine am_ev_st 1 (f' := am_br ((am_bz r28) ≠ 0) 93 87 [(8, .int r5), (7, .int (ji ((v5 + (-1 : Int32))).toNatClampNeg)), (5, .int (v5 + (-1 : Int32))), (0, .ref 19), (1, .int v1), (2, .int v2), (3, .int v3), (4, .int v4), (6, .int v6)] [] (W9 N C E F P Q T G U H B O_27 (jp, ji) V Y Z O9) k n) (g := True ∧ True) (by with_unfolding_all rfl) ⟨trivial, trivial⟩ ?_
            by_cases c29 : (am_bz r28) ≠ 0
            · rw [if_pos c29] at h
              refine am_ev_pos c29 ?_
              refine am_ev_st 4 (f' := (101, [(8, .int r5), (7, .int (ji ((v5 + (-1 : Int32))).toNatClampNeg)), (5, .int (v5 + (-1 : Int32))), (0, .ref 19), (1, .int v1), (2, .int v2), (3, .int v3), (4, .int v4), (6, .int v6)], [.int r5, .int (v5 + (-1 : Int32)), .ref 30], (W9 N C E F P Q T G U H B O_27 (jp, ji) V Y Z O9), k, n)) (g := True ∧ True ∧ True ∧ True ∧ True) (by with_unfolding_all rfl) ⟨trivial, trivial, trivial, trivial, trivial⟩ ?_
              replace h := Option.bind_eq_some_iff.mp h
              obtain ⟨r30, hc30, h⟩ := h
              try dsimp only at h
              refine am_ev_call (.invokestatic 84) 80 2 838 [.int r5] [.int (v5 + (-1 : Int32)), .ref 30] rfl rfl rfl rfl (ok_fm_bindsIn hc30 D (by omega)) rfl ?_
              refine am_ev_st 1 (f' := am_br ((am_bz r30) = 0) 114 104 [(8, .int r5), (7, .int (ji ((v5 + (-1 : Int32))).toNatClampNeg)), (5, .int (v5 + (-1 : Int32))), (0, .ref 19), (1, .int v1), (2, .int v2), (3, .int v3), (4, .int v4), (6, .int v6)] [.int (v5 + (-1 : Int32)), .ref 30] (W9 N C E F P Q T G U H B O_27 (jp, ji) V Y Z O9) k n) (g := True ∧ True) (by with_unfolding_all rfl) ⟨trivial, trivial⟩ ?_
              by_cases c31 : (am_bz r30) = 0
              · rw [if_pos c31] at h
                refine am_ev_pos c31 ?_
                by_cases g32 : ((v5 + (-1 : Int32)) < 0 ∨ 130 ≤ ((v5 + (-1 : Int32))).toNatClampNeg)
                · rw [if_pos g32] at h; cases h
                rw [if_neg g32] at h
                by_cases g33 : (((v5 + (-1 : Int32)) + (1 : Int32)) < 0 ∨ 130 ≤ (((v5 + (-1 : Int32)) + (1 : Int32))).toNatClampNeg)
                · rw [if_pos g33] at h; cases h
                rw [if_neg g33] at h
                refine am_ev_st 12 (f' := (13, [(6, .int (v6 + (1 : Int32))), (5, .int ((v5 + (-1 : Int32)) + (2 : Int32))), (8, .int r5), (7, .int (ji ((v5 + (-1 : Int32))).toNatClampNeg)), (0, .ref 19), (1, .int v1), (2, .int v2), (3, .int v3), (4, .int v4)], [], (W9 N C E F P Q T G U H B O_27 (jp, (upd (upd ji ((v5 + (-1 : Int32))).toNatClampNeg (ji ((v5 + (-1 : Int32))).toNatClampNeg)) (((v5 + (-1 : Int32)) + (1 : Int32))).toNatClampNeg (ji ((v5 + (-1 : Int32))).toNatClampNeg))) V Y Z O9), k, n)) (g := True ∧ vp_in ((v5 + (-1 : Int32))) 130 ∧ True ∧ True ∧ True ∧ True ∧ True ∧ True ∧ vp_in (((v5 + (-1 : Int32)) + (1 : Int32))) 130 ∧ True ∧ True ∧ True ∧ True) (by with_unfolding_all rfl) ⟨trivial, g32, trivial, trivial, trivial, trivial, trivial, trivial, g33, trivial, trivial, trivial, trivial⟩ ?_
                refine am_ev_drop [4, 5, 6, 7, 8, 1, 0] rfl rfl ?_
                exact ih h
              · rw [if_neg c31] at h
                refine am_ev_neg c31 ?_
                by_cases g34 : ((v5 + (-1 : Int32)) < 0 ∨ 130 ≤ ((v5 + (-1 : Int32))).toNatClampNeg)
                · rw [if_pos g34] at h; cases h
                rw [if_neg g34] at h
                by_cases g35 : (((v5 + (-1 : Int32)) + (1 : Int32)) < 0 ∨ 130 ≤ (((v5 + (-1 : Int32)) + (1 : Int32))).toNatClampNeg)
                · rw [if_pos g35] at h; cases h
                rw [if_neg g35] at h
                refine am_ev_st 15 (f' := (13, [(6, .int (v6 + (1 : Int32))), (5, .int ((v5 + (-1 : Int32)) + (2 : Int32))), (8, .int r5), (7, .int (ji ((v5 + (-1 : Int32))).toNatClampNeg)), (0, .ref 19), (1, .int v1), (2, .int v2), (3, .int v3), (4, .int v4)], [], (W9 N C E F P Q T G U H B O_27 (jp, (upd (upd ji ((v5 + (-1 : Int32))).toNatClampNeg ((ji ((v5 + (-1 : Int32))).toNatClampNeg) + (1 : Int32))) (((v5 + (-1 : Int32)) + (1 : Int32))).toNatClampNeg (ji ((v5 + (-1 : Int32))).toNatClampNeg))) V Y Z O9), k, n)) (g := True ∧ True ∧ True ∧ True ∧ vp_in ((v5 + (-1 : Int32))) 130 ∧ True ∧ True ∧ True ∧ True ∧ True ∧ True ∧ vp_in (((v5 + (-1 : Int32)) + (1 : Int32))) 130 ∧ True ∧ True ∧ True ∧ True) (by with_unfolding_all rfl) ⟨trivial, trivial, trivial, trivial, g34, trivial, trivial, trivial, trivial, trivial, trivial, g35, trivial, trivial, trivial, trivial⟩ ?_
                refine am_ev_drop [4, 5, 6, 7, 8, 1, 0] rfl rfl ?_
                exact ih h
            · rw [if_neg c29] at h
              refine am_ev_neg c29 ?_
              refine am_ev_st 3 (f' := (13, [(6, .int (v6 + (1 : Int32))), (8, .int r5), (7, .int (ji ((v5 + (-1 : Int32))).toNatClampNeg)), (5, .int (v5 + (-1 : Int32))), (0, .ref 19), (1, .int v1), (2, .int v2), (3, .int v3), (4, .int v4)], [], (W9 N C E F P Q T G U H B O_27 (jp, ji) V Y Z O9), k, n)) (g := True ∧ True ∧ True ∧ True) (by with_unfolding_all rfl) ⟨trivial, trivial, trivial, trivial⟩ ?_
              refine am_ev_drop [4, 5, 6, 7, 8, 3, 0] rfl rfl ?_
              exact ih h
set_option maxHeartbeats 4000000 in
set_option maxRecDepth 100000 in
theorem ok_fm_putRaised {fl : Nat} {N : cN} {C : cC} {E : cE} {F : cF} {P : cP} {Q : cQ} {T : cT} {G : cG} {U : cU} {H : cH} {B : cB} {O : cO} {J : cJ} {V : cV} {Y : cY} {Z : cZ} {O9 : cO9} {k n : Nat} {p1 p2 p3 p4 : Int32} {O' : cO} {J' : cJ} (h : fm_putRaised fl B O J p1 p2 p3 p4 = some (O', J')) (D : Nat) (hD : 2 ≤ D) : am_Call D 91 [.ref 19, .int p1, .int p2, .int p3, .int p4] (W9 N C E F P Q T G U H B O J V Y Z O9) k n (.inl none, W9 N C E F P Q T G U H B O' J' V Y Z O9, k, n) := by
  unfold fm_putRaised at h
  obtain ⟨D, rfl⟩ : ∃ D', D = D' + 1 := ⟨D - 1, by omega⟩
  have hD : 1 ≤ D := by omega
  refine am_call_run (by decide) (by decide) rfl (Nat.le_of_ble_eq_true rfl) (by decide) (L := [(0, .ref 19), (1, .int p1), (2, .int p2), (3, .int p3), (4, .int p4)]) rfl ?_
  obtain ⟨jp, ji⟩ := J
  try dsimp only at h
  by_cases g1 : ((0 : Int32) < 0 ∨ 130 ≤ ((0 : Int32)).toNatClampNeg)
  · rw [if_pos g1] at h; cases h
  rw [if_neg g1] at h
  refine am_ev_st 9 (f' := (13, [(6, .int p2), (5, .int (1 : Int32)), (0, .ref 19), (1, .int p1), (2, .int p2), (3, .int p3), (4, .int p4)], [], (W9 N C E F P Q T G U H B O (jp, (upd ji ((0 : Int32)).toNatClampNeg (0 : Int32))) V Y Z O9), k, n)) (g := True ∧ True ∧ True ∧ True ∧ True ∧ True ∧ vp_in ((0 : Int32)) 130 ∧ True ∧ True ∧ True) (by with_unfolding_all rfl) ⟨trivial, trivial, trivial, trivial, trivial, trivial, g1, trivial, trivial, trivial⟩ ?_
  refine am_ev_drop [2, 3, 4, 5, 6, 1, 0] rfl rfl ?_
  exact ok_lp_fm_putRaised_13 h D hD
def lp_fm_putFor_13 (fl : Nat) : Nat → cB → cO → cJ → Int32 → Int32 → Int32 → Int32 → Int32 → Int32 → Int32 → Int32 → Option (cO × cJ)
  | 0, _, _, _, _, _, _, _, _, _, _, _ => none
  | w + 1, B, O, J, v1, v2, v3, v4, v5, v6, v7, v8 =>
    if v3 ≤ v8 then
    (some (O, J))
    else
    match O with
    | (om, oo, og) =>
    if og ≠ 0 then
    (some (O, J))
    else
    match J with
    | (jp, ji) =>
    if ((v7 + (-1 : Int32)) < 0 ∨ 130 ≤ ((v7 + (-1 : Int32))).toNatClampNeg) then none else
    (fm_at B v1 v8).bind fun z5 =>
    match z5 with
    | (r5) =>
    (fm_kindOf r5).bind fun z6 =>
    match z6 with
    | (r6) =>
    if r6 ≠ 0 then
    ((fm_put O r5).bind fun z8 =>
    match z8 with
    | (O_8) =>
    (fm_hasParts r5).bind fun z9 =>
    match z9 with
    | (r9) =>
    if (am_bz r9) ≠ 0 then
    ((fm_bindsIn r5).bind fun z11 =>
    match z11 with
    | (r11) =>
    if (am_bz r11) = 0 then
    (if ((v7 + (-1 : Int32)) < 0 ∨ 130 ≤ ((v7 + (-1 : Int32))).toNatClampNeg) then none else
    if (((v7 + (-1 : Int32)) + (1 : Int32)) < 0 ∨ 130 ≤ (((v7 + (-1 : Int32)) + (1 : Int32))).toNatClampNeg) then none else
    lp_fm_putFor_13 fl w B O_8 ((upd (upd jp ((v7 + (-1 : Int32))).toNatClampNeg (jp ((v7 + (-1 : Int32))).toNatClampNeg)) (((v7 + (-1 : Int32)) + (1 : Int32))).toNatClampNeg (jp ((v7 + (-1 : Int32))).toNatClampNeg)), ji) v1 v2 v3 v4 v5 v6 ((v7 + (-1 : Int32)) + (2 : Int32)) (v8 + (1 : Int32)))
    else
    if ((v7 + (-1 : Int32)) < 0 ∨ 130 ≤ ((v7 + (-1 : Int32))).toNatClampNeg) then none else
    if (((v7 + (-1 : Int32)) + (1 : Int32)) < 0 ∨ 130 ≤ (((v7 + (-1 : Int32)) + (1 : Int32))).toNatClampNeg) then none else
    lp_fm_putFor_13 fl w B O_8 ((upd (upd jp ((v7 + (-1 : Int32))).toNatClampNeg ((jp ((v7 + (-1 : Int32))).toNatClampNeg) + (1 : Int32))) (((v7 + (-1 : Int32)) + (1 : Int32))).toNatClampNeg (jp ((v7 + (-1 : Int32))).toNatClampNeg)), ji) v1 v2 v3 v4 v5 v6 ((v7 + (-1 : Int32)) + (2 : Int32)) (v8 + (1 : Int32)))
    else
    lp_fm_putFor_13 fl w B O_8 J v1 v2 v3 v4 v5 v6 (v7 + (-1 : Int32)) (v8 + (1 : Int32)))
    else
    if (jp ((v7 + (-1 : Int32))).toNatClampNeg) ≤ (r5 / (10 : Int32)) then
    (if (r5 / (10 : Int32)) ≠ (jp ((v7 + (-1 : Int32))).toNatClampNeg) then
    ((fm_put O (r5 - (10 : Int32))).bind fun z19 =>
    match z19 with
    | (O_19) =>
    (fm_hasParts r5).bind fun z20 =>
    match z20 with
    | (r20) =>
    if (am_bz r20) ≠ 0 then
    ((fm_bindsIn r5).bind fun z22 =>
    match z22 with
    | (r22) =>
    if (am_bz r22) = 0 then
    (if ((v7 + (-1 : Int32)) < 0 ∨ 130 ≤ ((v7 + (-1 : Int32))).toNatClampNeg) then none else
    if (((v7 + (-1 : Int32)) + (1 : Int32)) < 0 ∨ 130 ≤ (((v7 + (-1 : Int32)) + (1 : Int32))).toNatClampNeg) then none else
    lp_fm_putFor_13 fl w B O_19 ((upd (upd jp ((v7 + (-1 : Int32))).toNatClampNeg (jp ((v7 + (-1 : Int32))).toNatClampNeg)) (((v7 + (-1 : Int32)) + (1 : Int32))).toNatClampNeg (jp ((v7 + (-1 : Int32))).toNatClampNeg)), ji) v1 v2 v3 v4 v5 v6 ((v7 + (-1 : Int32)) + (2 : Int32)) (v8 + (1 : Int32)))
    else
    if ((v7 + (-1 : Int32)) < 0 ∨ 130 ≤ ((v7 + (-1 : Int32))).toNatClampNeg) then none else
    if (((v7 + (-1 : Int32)) + (1 : Int32)) < 0 ∨ 130 ≤ (((v7 + (-1 : Int32)) + (1 : Int32))).toNatClampNeg) then none else
    lp_fm_putFor_13 fl w B O_19 ((upd (upd jp ((v7 + (-1 : Int32))).toNatClampNeg ((jp ((v7 + (-1 : Int32))).toNatClampNeg) + (1 : Int32))) (((v7 + (-1 : Int32)) + (1 : Int32))).toNatClampNeg (jp ((v7 + (-1 : Int32))).toNatClampNeg)), ji) v1 v2 v3 v4 v5 v6 ((v7 + (-1 : Int32)) + (2 : Int32)) (v8 + (1 : Int32)))
    else
    lp_fm_putFor_13 fl w B O_19 J v1 v2 v3 v4 v5 v6 (v7 + (-1 : Int32)) (v8 + (1 : Int32)))
    else
    (fm_putRaised fl B O J v4 v5 v6 (jp ((v7 + (-1 : Int32))).toNatClampNeg)).bind fun z28 =>
    match z28 with
    | (O_28, J_28) =>
    (fm_hasParts r5).bind fun z29 =>
    match z29 with
    | (r29) =>
    if (am_bz r29) ≠ 0 then
    ((fm_bindsIn r5).bind fun z31 =>
    match z31 with
    | (r31) =>
    if (am_bz r31) = 0 then
    (match J_28 with
    | (jp_28, ji_28) =>
    if ((v7 + (-1 : Int32)) < 0 ∨ 130 ≤ ((v7 + (-1 : Int32))).toNatClampNeg) then none else
    if (((v7 + (-1 : Int32)) + (1 : Int32)) < 0 ∨ 130 ≤ (((v7 + (-1 : Int32)) + (1 : Int32))).toNatClampNeg) then none else
    lp_fm_putFor_13 fl w B O_28 ((upd (upd jp_28 ((v7 + (-1 : Int32))).toNatClampNeg (jp ((v7 + (-1 : Int32))).toNatClampNeg)) (((v7 + (-1 : Int32)) + (1 : Int32))).toNatClampNeg (jp ((v7 + (-1 : Int32))).toNatClampNeg)), ji_28) v1 v2 v3 v4 v5 v6 ((v7 + (-1 : Int32)) + (2 : Int32)) (v8 + (1 : Int32)))
    else
    match J_28 with
    | (jp_28, ji_28) =>
    if ((v7 + (-1 : Int32)) < 0 ∨ 130 ≤ ((v7 + (-1 : Int32))).toNatClampNeg) then none else
    if (((v7 + (-1 : Int32)) + (1 : Int32)) < 0 ∨ 130 ≤ (((v7 + (-1 : Int32)) + (1 : Int32))).toNatClampNeg) then none else
    lp_fm_putFor_13 fl w B O_28 ((upd (upd jp_28 ((v7 + (-1 : Int32))).toNatClampNeg ((jp ((v7 + (-1 : Int32))).toNatClampNeg) + (1 : Int32))) (((v7 + (-1 : Int32)) + (1 : Int32))).toNatClampNeg (jp ((v7 + (-1 : Int32))).toNatClampNeg)), ji_28) v1 v2 v3 v4 v5 v6 ((v7 + (-1 : Int32)) + (2 : Int32)) (v8 + (1 : Int32)))
    else
    lp_fm_putFor_13 fl w B O_28 J_28 v1 v2 v3 v4 v5 v6 (v7 + (-1 : Int32)) (v8 + (1 : Int32)))
    else
    (fm_put O r5).bind fun z37 =>
    match z37 with
    | (O_37) =>
    (fm_hasParts r5).bind fun z38 =>
    match z38 with
    | (r38) =>
    if (am_bz r38) ≠ 0 then
    ((fm_bindsIn r5).bind fun z40 =>
    match z40 with
    | (r40) =>
    if (am_bz r40) = 0 then
    (if ((v7 + (-1 : Int32)) < 0 ∨ 130 ≤ ((v7 + (-1 : Int32))).toNatClampNeg) then none else
    if (((v7 + (-1 : Int32)) + (1 : Int32)) < 0 ∨ 130 ≤ (((v7 + (-1 : Int32)) + (1 : Int32))).toNatClampNeg) then none else
    lp_fm_putFor_13 fl w B O_37 ((upd (upd jp ((v7 + (-1 : Int32))).toNatClampNeg (jp ((v7 + (-1 : Int32))).toNatClampNeg)) (((v7 + (-1 : Int32)) + (1 : Int32))).toNatClampNeg (jp ((v7 + (-1 : Int32))).toNatClampNeg)), ji) v1 v2 v3 v4 v5 v6 ((v7 + (-1 : Int32)) + (2 : Int32)) (v8 + (1 : Int32)))
    else
    if ((v7 + (-1 : Int32)) < 0 ∨ 130 ≤ ((v7 + (-1 : Int32))).toNatClampNeg) then none else
    if (((v7 + (-1 : Int32)) + (1 : Int32)) < 0 ∨ 130 ≤ (((v7 + (-1 : Int32)) + (1 : Int32))).toNatClampNeg) then none else
    lp_fm_putFor_13 fl w B O_37 ((upd (upd jp ((v7 + (-1 : Int32))).toNatClampNeg ((jp ((v7 + (-1 : Int32))).toNatClampNeg) + (1 : Int32))) (((v7 + (-1 : Int32)) + (1 : Int32))).toNatClampNeg (jp ((v7 + (-1 : Int32))).toNatClampNeg)), ji) v1 v2 v3 v4 v5 v6 ((v7 + (-1 : Int32)) + (2 : Int32)) (v8 + (1 : Int32)))
    else
    lp_fm_putFor_13 fl w B O_37 J v1 v2 v3 v4 v5 v6 (v7 + (-1 : Int32)) (v8 + (1 : Int32))
def fm_putFor (fl : Nat) (B : cB) (O : cO) (J : cJ) (p1 p2 p3 p4 p5 p6 : Int32) : Option (cO × cJ) :=
  match J with
  | (jp, ji) =>
  if ((0 : Int32) < 0 ∨ 130 ≤ ((0 : Int32)).toNatClampNeg) then none else
  lp_fm_putFor_13 fl fl B O ((upd jp ((0 : Int32)).toNatClampNeg (0 : Int32)), ji) p1 p2 p3 p4 p5 p6 (1 : Int32) p2
set_option maxHeartbeats 4000000 in
set_option maxRecDepth 100000 in
theorem ok_lp_fm_putFor_13 {fl : Nat} : ∀ {w : Nat} {N : cN} {C : cC} {E : cE} {F : cF} {P : cP} {Q : cQ} {T : cT} {G : cG} {U : cU} {H : cH} {B : cB} {O : cO} {J : cJ} {V : cV} {Y : cY} {Z : cZ} {O9 : cO9} {k n : Nat} {v1 : Int32} {v2 : Int32} {v3 : Int32} {v4 : Int32} {v5 : Int32} {v6 : Int32} {v7 : Int32} {v8 : Int32} {O' : cO} {J' : cJ} (h : lp_fm_putFor_13 fl w B O J v1 v2 v3 v4 v5 v6 v7 v8 = some (O', J')) (D : Nat) (hD : 2 ≤ D), am_Ev D 92 0 (fun _ => 0) (13, [(0, .ref 19), (1, .int v1), (2, .int v2), (3, .int v3), (4, .int v4), (5, .int v5), (6, .int v6), (7, .int v7), (8, .int v8)], [], (W9 N C E F P Q T G U H B O J V Y Z O9), k, n) (.inl none, W9 N C E F P Q T G U H B O' J' V Y Z O9, k, n) := by
  intro w
  induction w with
  | zero => intros; rename_i h _ _; cases h
  | succ w ih0 =>
    intro N C E F P Q T G U H B O J V Y Z O9 k n v1 v2 v3 v4 v5 v6 v7 v8 O' J' h D hD
    have ih := fun {N} {C} {E} {F} {P} {Q} {T} {G} {U} {H} {B} {O} {J} {V} {Y} {Z} {O9} {k} {n} {v1} {v2} {v3} {v4} {v5} {v6} {v7} {v8} {O'} {J'} h => @ih0 N C E F P Q T G U H B O J V Y Z O9 k n v1 v2 v3 v4 v5 v6 v7 v8 O' J' h D hD
    unfold lp_fm_putFor_13 at h
    refine am_ev_st 3 (f' := am_br (v3 ≤ v8) 164 16 [(0, .ref 19), (1, .int v1), (2, .int v2), (3, .int v3), (4, .int v4), (5, .int v5), (6, .int v6), (7, .int v7), (8, .int v8)] [] (W9 N C E F P Q T G U H B O J V Y Z O9) k n) (g := True ∧ True ∧ True ∧ True) (by with_unfolding_all rfl) ⟨trivial, trivial, trivial, trivial⟩ ?_
    by_cases c2 : v3 ≤ v8
    · rw [if_pos c2] at h
      refine am_ev_pos c2 ?_
      cases h
      exact am_ev_vret 0 0 0 rfl rfl rfl
    · rw [if_neg c2] at h
      refine am_ev_neg c2 ?_
      obtain ⟨om, oo, og⟩ := O
      try dsimp only at h
      refine am_ev_st 3 (f' := am_br (og ≠ 0) 164 23 [(0, .ref 19), (1, .int v1), (2, .int v2), (3, .int v3), (4, .int v4), (5, .int v5), (6, .int v6), (7, .int v7), (8, .int v8)] [] (W9 N C E F P Q T G U H B (om, oo, og) J V Y Z O9) k n) (g := True ∧ True ∧ True ∧ True) (by with_unfolding_all rfl) ⟨trivial, trivial, trivial, trivial⟩ ?_
      by_cases c3 : og ≠ 0
      · rw [if_pos c3] at h
        refine am_ev_pos c3 ?_
        cases h
        exact am_ev_vret 0 0 0 rfl rfl rfl
      · rw [if_neg c3] at h
        refine am_ev_neg c3 ?_
        obtain ⟨jp, ji⟩ := J
        try dsimp only at h
        by_cases g4 : ((v7 + (-1 : Int32)) < 0 ∨ 130 ≤ ((v7 + (-1 : Int32))).toNatClampNeg)
        · rw [if_pos g4] at h; cases h
        rw [if_neg g4] at h
        refine am_ev_st 9 (f' := (42, [(9, .int (jp ((v7 + (-1 : Int32))).toNatClampNeg)), (7, .int (v7 + (-1 : Int32))), (0, .ref 19), (1, .int v1), (2, .int v2), (3, .int v3), (4, .int v4), (5, .int v5), (6, .int v6), (8, .int v8)], [.int v8, .int v1, .ref 19], (W9 N C E F P Q T G U H B (om, oo, og) (jp, ji) V Y Z O9), k, n)) (g := True ∧ True ∧ True ∧ True ∧ vp_in ((v7 + (-1 : Int32))) 130 ∧ True ∧ True ∧ True ∧ True ∧ True) (by with_unfolding_all rfl) ⟨trivial, trivial, trivial, trivial, g4, trivial, trivial, trivial, trivial, trivial⟩ ?_
        replace h := Option.bind_eq_some_iff.mp h
        obtain ⟨r5, hc5, h⟩ := h
        try dsimp only at h
        refine am_ev_call (.invokevirtual 69) 81 4 820 [.ref 19, .int v1, .int v8] [] rfl rfl rfl rfl (ok_fm_at hc5 D (by omega)) rfl ?_
        refine am_ev_st 6 (f' := (56, [(11, .int (r5 / (10 : Int32))), (10, .int r5), (9, .int (jp ((v7 + (-1 : Int32))).toNatClampNeg)), (7, .int (v7 + (-1 : Int32))), (0, .ref 19), (1, .int v1), (2, .int v2), (3, .int v3), (4, .int v4), (5, .int v5), (6, .int v6), (8, .int v8)], [.int r5], (W9 N C E F P Q T G U H B (om, oo, og) (jp, ji) V Y Z O9), k, n)) (g := True ∧ True ∧ True ∧ ¬ ((10 : Int32) = 0) ∧ True ∧ True ∧ True) (by with_unfolding_all rfl) ⟨trivial, trivial, trivial, by decide, trivial, trivial, trivial⟩ ?_
        replace h := Option.bind_eq_some_iff.mp h
        obtain ⟨r6, hc6, h⟩ := h
        try dsimp only at h
        refine am_ev_call (.invokestatic 80) 78 2 824 [.int r5] [] rfl rfl rfl rfl (ok_fm_kindOf hc6 D (by omega)) rfl ?_
        refine am_ev_st 1 (f' := am_br (r6 ≠ 0) 69 59 [(11, .int (r5 / (10 : Int32))), (10, .int r5), (9, .int (jp ((v7 + (-1 : Int32))).toNatClampNeg)), (7, .int (v7 + (-1 : Int32))), (0, .ref 19), (1, .int v1), (2, .int v2), (3, .int v3), (4, .int v4), (5, .int v5), (6, .int v6), (8, .int v8)] [] (W9 N C E F P Q T G U H B (om, oo, og) (jp, ji) V Y Z O9) k n) (g := True ∧ True) (by with_unfolding_all rfl) ⟨trivial, trivial⟩ ?_
        by_cases c7 : r6 ≠ 0
        · rw [if_pos c7] at h
          refine am_ev_pos c7 ?_
          refine am_ev_st 2 (f' := (72, [(11, .int (r5 / (10 : Int32))), (10, .int r5), (9, .int (jp ((v7 + (-1 : Int32))).toNatClampNeg)), (7, .int (v7 + (-1 : Int32))), (0, .ref 19), (1, .int v1), (2, .int v2), (3, .int v3), (4, .int v4), (5, .int v5), (6, .int v6), (8, .int v8)], [.int r5, .ref 19], (W9 N C E F P Q T G U H B (om, oo, og) (jp, ji) V Y Z O9), k, n)) (g := True ∧ True ∧ True) (by with_unfolding_all rfl) ⟨trivial, trivial, trivial⟩ ?_
          replace h := Option.bind_eq_some_iff.mp h
          obtain ⟨O_8, hc8, h⟩ := h
          try dsimp only at h
          refine am_ev_call (.invokevirtual 94) 89 2 873 [.ref 19, .int r5] [] rfl rfl rfl rfl (ok_fm_put hc8 D (by omega)) rfl ?_
          refine am_ev_st 2 (f' := (111, [(11, .int (r5 / (10 : Int32))), (10, .int r5), (9, .int (jp ((v7 + (-1 : Int32))).toNatClampNeg)), (7, .int (v7 + (-1 : Int32))), (0, .ref 19), (1, .int v1), (2, .int v2), (3, .int v3), (4, .int v4), (5, .int v5), (6, .int v6), (8, .int v8)], [.int r5], (W9 N C E F P Q T G U H B O_8 (jp, ji) V Y Z O9), k, n)) (g := True ∧ True ∧ True) (by with_unfolding_all rfl) ⟨trivial, trivial, trivial⟩ ?_
          replace h := Option.bind_eq_some_iff.mp h
          obtain ⟨r9, hc9, h⟩ := h
          try dsimp only at h
          refine am_ev_call (.invokestatic 73) 79 2 835 [.int r5] [] rfl rfl rfl rfl (ok_fm_hasParts hc9 D (by omega)) rfl ?_
          refine am_ev_st 1 (f' := am_br ((am_bz r9) ≠ 0) 120 114 [(11, .int (r5 / (10 : Int32))), (10, .int r5), (9, .int (jp ((v7 + (-1 : Int32))).toNatClampNeg)), (7, .int (v7 + (-1 : Int32))), (0, .ref 19), (1, .int v1), (2, .int v2), (3, .int v3), (4, .int v4), (5, .int v5), (6, .int v6), (8, .int v8)] [] (W9 N C E F P Q T G U H B O_8 (jp, ji) V Y Z O9) k n) (g := True ∧ True) (by with_unfolding_all rfl) ⟨trivial, trivial⟩ ?_
          by_cases c10 : (am_bz r9) ≠ 0
          · rw [if_pos c10] at h
            refine am_ev_pos c10 ?_
            refine am_ev_st 4 (f' := (128, [(11, .int (r5 / (10 : Int32))), (10, .int r5), (9, .int (jp ((v7 + (-1 : Int32))).toNatClampNeg)), (7, .int (v7 + (-1 : Int32))), (0, .ref 19), (1, .int v1), (2, .int v2), (3, .int v3), (4, .int v4), (5, .int v5), (6, .int v6), (8, .int v8)], [.int r5, .int (v7 + (-1 : Int32)), .ref 29], (W9 N C E F P Q T G U H B O_8 (jp, ji) V Y Z O9), k, n)) (g := True ∧ True ∧ True ∧ True ∧ True) (by with_unfolding_all rfl) ⟨trivial, trivial, trivial, trivial, trivial⟩ ?_
            replace h := Option.bind_eq_some_iff.mp h
            obtain ⟨r11, hc11, h⟩ := h
            try dsimp only at h
            refine am_ev_call (.invokestatic 84) 80 2 838 [.int r5] [.int (v7 + (-1 : Int32)), .ref 29] rfl rfl rfl rfl (ok_fm_bindsIn hc11 D (by omega)) rfl ?_
            refine am_ev_st 1 (f' := am_br ((am_bz r11) = 0) 141 131 [(11, .int (r5 / (10 : Int32))), (10, .int r5), (9, .int (jp ((v7 + (-1 : Int32))).toNatClampNeg)), (7, .int (v7 + (-1 : Int32))), (0, .ref 19), (1, .int v1), (2, .int v2), (3, .int v3), (4, .int v4), (5, .int v5), (6, .int v6), (8, .int v8)] [.int (v7 + (-1 : Int32)), .ref 29] (W9 N C E F P Q T G U H B O_8 (jp, ji) V Y Z O9) k n) (g := True ∧ True) (by with_unfolding_all rfl) ⟨trivial, trivial⟩ ?_
            by_cases c12 : (am_bz r11) = 0
            · rw [if_pos c12] at h
              refine am_ev_pos c12 ?_
              by_cases g13 : ((v7 + (-1 : Int32)) < 0 ∨ 130 ≤ ((v7 + (-1 : Int32))).toNatClampNeg)
              · rw [if_pos g13] at h; cases h
              rw [if_neg g13] at h
              by_cases g14 : (((v7 + (-1 : Int32)) + (1 : Int32)) < 0 ∨ 130 ≤ (((v7 + (-1 : Int32)) + (1 : Int32))).toNatClampNeg)
              · rw [if_pos g14] at h; cases h
              rw [if_neg g14] at h
              refine am_ev_st 12 (f' := (13, [(8, .int (v8 + (1 : Int32))), (7, .int ((v7 + (-1 : Int32)) + (2 : Int32))), (11, .int (r5 / (10 : Int32))), (10, .int r5), (9, .int (jp ((v7 + (-1 : Int32))).toNatClampNeg)), (0, .ref 19), (1, .int v1), (2, .int v2), (3, .int v3), (4, .int v4), (5, .int v5), (6, .int v6)], [], (W9 N C E F P Q T G U H B O_8 ((upd (upd jp ((v7 + (-1 : Int32))).toNatClampNeg (jp ((v7 + (-1 : Int32))).toNatClampNeg)) (((v7 + (-1 : Int32)) + (1 : Int32))).toNatClampNeg (jp ((v7 + (-1 : Int32))).toNatClampNeg)), ji) V Y Z O9), k, n)) (g := True ∧ vp_in ((v7 + (-1 : Int32))) 130 ∧ True ∧ True ∧ True ∧ True ∧ True ∧ True ∧ vp_in (((v7 + (-1 : Int32)) + (1 : Int32))) 130 ∧ True ∧ True ∧ True ∧ True) (by with_unfolding_all rfl) ⟨trivial, g13, trivial, trivial, trivial, trivial, trivial, trivial, g14, trivial, trivial, trivial, trivial⟩ ?_
              refine am_ev_drop [5, 6, 7, 8, 9, 10, 11, 1, 0] rfl rfl ?_
              exact ih h
            · rw [if_neg c12] at h
              refine am_ev_neg c12 ?_
              by_cases g15 : ((v7 + (-1 : Int32)) < 0 ∨ 130 ≤ ((v7 + (-1 : Int32))).toNatClampNeg)
              · rw [if_pos g15] at h; cases h
              rw [if_neg g15] at h
              by_cases g16 : (((v7 + (-1 : Int32)) + (1 : Int32)) < 0 ∨ 130 ≤ (((v7 + (-1 : Int32)) + (1 : Int32))).toNatClampNeg)
              · rw [if_pos g16] at h; cases h
              rw [if_neg g16] at h
              refine am_ev_st 15 (f' := (13, [(8, .int (v8 + (1 : Int32))), (7, .int ((v7 + (-1 : Int32)) + (2 : Int32))), (11, .int (r5 / (10 : Int32))), (10, .int r5), (9, .int (jp ((v7 + (-1 : Int32))).toNatClampNeg)), (0, .ref 19), (1, .int v1), (2, .int v2), (3, .int v3), (4, .int v4), (5, .int v5), (6, .int v6)], [], (W9 N C E F P Q T G U H B O_8 ((upd (upd jp ((v7 + (-1 : Int32))).toNatClampNeg ((jp ((v7 + (-1 : Int32))).toNatClampNeg) + (1 : Int32))) (((v7 + (-1 : Int32)) + (1 : Int32))).toNatClampNeg (jp ((v7 + (-1 : Int32))).toNatClampNeg)), ji) V Y Z O9), k, n)) (g := True ∧ True ∧ True ∧ True ∧ vp_in ((v7 + (-1 : Int32))) 130 ∧ True ∧ True ∧ True ∧ True ∧ True ∧ True ∧ vp_in (((v7 + (-1 : Int32)) + (1 : Int32))) 130 ∧ True ∧ True ∧ True ∧ True) (by with_unfolding_all rfl) ⟨trivial, trivial, trivial, trivial, g15, trivial, trivial, trivial, trivial, trivial, trivial, g16, trivial, trivial, trivial, trivial⟩ ?_
              refine am_ev_drop [5, 6, 7, 8, 9, 10, 11, 1, 0] rfl rfl ?_
              exact ih h
          · rw [if_neg c10] at h
            refine am_ev_neg c10 ?_
            refine am_ev_st 3 (f' := (13, [(8, .int (v8 + (1 : Int32))), (11, .int (r5 / (10 : Int32))), (10, .int r5), (9, .int (jp ((v7 + (-1 : Int32))).toNatClampNeg)), (7, .int (v7 + (-1 : Int32))), (0, .ref 19), (1, .int v1), (2, .int v2), (3, .int v3), (4, .int v4), (5, .int v5), (6, .int v6)], [], (W9 N C E F P Q T G U H B O_8 (jp, ji) V Y Z O9), k, n)) (g := True ∧ True ∧ True ∧ True) (by with_unfolding_all rfl) ⟨trivial, trivial, trivial, trivial⟩ ?_
            refine am_ev_drop [5, 6, 7, 8, 9, 10, 11, 4, 0] rfl rfl ?_
            exact ih h
        · rw [if_neg c7] at h
          refine am_ev_neg c7 ?_
          refine am_ev_st 3 (f' := am_br ((jp ((v7 + (-1 : Int32))).toNatClampNeg) ≤ (r5 / (10 : Int32))) 78 66 [(11, .int (r5 / (10 : Int32))), (10, .int r5), (9, .int (jp ((v7 + (-1 : Int32))).toNatClampNeg)), (7, .int (v7 + (-1 : Int32))), (0, .ref 19), (1, .int v1), (2, .int v2), (3, .int v3), (4, .int v4), (5, .int v5), (6, .int v6), (8, .int v8)] [] (W9 N C E F P Q T G U H B (om, oo, og) (jp, ji) V Y Z O9) k n) (g := True ∧ True ∧ True ∧ True) (by with_unfolding_all rfl) ⟨trivial, trivial, trivial, trivial⟩ ?_
          by_cases c17 : (jp ((v7 + (-1 : Int32))).toNatClampNeg) ≤ (r5 / (10 : Int32))
          · rw [if_pos c17] at h
            refine am_ev_pos c17 ?_
            refine am_ev_st 3 (f' := am_br ((r5 / (10 : Int32)) ≠ (jp ((v7 + (-1 : Int32))).toNatClampNeg)) 100 82 [(11, .int (r5 / (10 : Int32))), (10, .int r5), (9, .int (jp ((v7 + (-1 : Int32))).toNatClampNeg)), (7, .int (v7 + (-1 : Int32))), (0, .ref 19), (1, .int v1), (2, .int v2), (3, .int v3), (4, .int v4), (5, .int v5), (6, .int v6), (8, .int v8)] [] (W9 N C E F P Q T G U H B (om, oo, og) (jp, ji) V Y Z O9) k n) (g := True ∧ True ∧ True ∧ True) (by with_unfolding_all rfl) ⟨trivial, trivial, trivial, trivial⟩ ?_
            by_cases c18 : (r5 / (10 : Int32)) ≠ (jp ((v7 + (-1 : Int32))).toNatClampNeg)
            · rw [if_pos c18] at h
              refine am_ev_pos c18 ?_
              refine am_ev_st 4 (f' := (106, [(11, .int (r5 / (10 : Int32))), (10, .int r5), (9, .int (jp ((v7 + (-1 : Int32))).toNatClampNeg)), (7, .int (v7 + (-1 : Int32))), (0, .ref 19), (1, .int v1), (2, .int v2), (3, .int v3), (4, .int v4), (5, .int v5), (6, .int v6), (8, .int v8)], [.int (r5 - (10 : Int32)), .ref 19], (W9 N C E F P Q T G U H B (om, oo, og) (jp, ji) V Y Z O9), k, n)) (g := True ∧ True ∧ True ∧ True ∧ True) (by with_unfolding_all rfl) ⟨trivial, trivial, trivial, trivial, trivial⟩ ?_
              replace h := Option.bind_eq_some_iff.mp h
              obtain ⟨O_19, hc19, h⟩ := h
              try dsimp only at h
              refine am_ev_call (.invokevirtual 94) 89 2 873 [.ref 19, .int (r5 - (10 : Int32))] [] rfl rfl rfl rfl (ok_fm_put hc19 D (by omega)) rfl ?_
              refine am_ev_st 1 (f' := (111, [(11, .int (r5 / (10 : Int32))), (10, .int r5), (9, .int (jp ((v7 + (-1 : Int32))).toNatClampNeg)), (7, .int (v7 + (-1 : Int32))), (0, .ref 19), (1, .int v1), (2, .int v2), (3, .int v3), (4, .int v4), (5, .int v5), (6, .int v6), (8, .int v8)], [.int r5], (W9 N C E F P Q T G U H B O_19 (jp, ji) V Y Z O9), k, n)) (g := True ∧ True) (by with_unfolding_all rfl) ⟨trivial, trivial⟩ ?_
              replace h := Option.bind_eq_some_iff.mp h
              obtain ⟨r20, hc20, h⟩ := h
              try dsimp only at h
              refine am_ev_call (.invokestatic 73) 79 2 835 [.int r5] [] rfl rfl rfl rfl (ok_fm_hasParts hc20 D (by omega)) rfl ?_
              refine am_ev_st 1 (f' := am_br ((am_bz r20) ≠ 0) 120 114 [(11, .int (r5 / (10 : Int32))), (10, .int r5), (9, .int (jp ((v7 + (-1 : Int32))).toNatClampNeg)), (7, .int (v7 + (-1 : Int32))), (0, .ref 19), (1, .int v1), (2, .int v2), (3, .int v3), (4, .int v4), (5, .int v5), (6, .int v6), (8, .int v8)] [] (W9 N C E F P Q T G U H B O_19 (jp, ji) V Y Z O9) k n) (g := True ∧ True) (by with_unfolding_all rfl) ⟨trivial, trivial⟩ ?_
              by_cases c21 : (am_bz r20) ≠ 0
              · rw [if_pos c21] at h
                refine am_ev_pos c21 ?_
                refine am_ev_st 4 (f' := (128, [(11, .int (r5 / (10 : Int32))), (10, .int r5), (9, .int (jp ((v7 + (-1 : Int32))).toNatClampNeg)), (7, .int (v7 + (-1 : Int32))), (0, .ref 19), (1, .int v1), (2, .int v2), (3, .int v3), (4, .int v4), (5, .int v5), (6, .int v6), (8, .int v8)], [.int r5, .int (v7 + (-1 : Int32)), .ref 29], (W9 N C E F P Q T G U H B O_19 (jp, ji) V Y Z O9), k, n)) (g := True ∧ True ∧ True ∧ True ∧ True) (by with_unfolding_all rfl) ⟨trivial, trivial, trivial, trivial, trivial⟩ ?_
                replace h := Option.bind_eq_some_iff.mp h
                obtain ⟨r22, hc22, h⟩ := h
                try dsimp only at h
                refine am_ev_call (.invokestatic 84) 80 2 838 [.int r5] [.int (v7 + (-1 : Int32)), .ref 29] rfl rfl rfl rfl (ok_fm_bindsIn hc22 D (by omega)) rfl ?_
                refine am_ev_st 1 (f' := am_br ((am_bz r22) = 0) 141 131 [(11, .int (r5 / (10 : Int32))), (10, .int r5), (9, .int (jp ((v7 + (-1 : Int32))).toNatClampNeg)), (7, .int (v7 + (-1 : Int32))), (0, .ref 19), (1, .int v1), (2, .int v2), (3, .int v3), (4, .int v4), (5, .int v5), (6, .int v6), (8, .int v8)] [.int (v7 + (-1 : Int32)), .ref 29] (W9 N C E F P Q T G U H B O_19 (jp, ji) V Y Z O9) k n) (g := True ∧ True) (by with_unfolding_all rfl) ⟨trivial, trivial⟩ ?_
                by_cases c23 : (am_bz r22) = 0
                · rw [if_pos c23] at h
                  refine am_ev_pos c23 ?_
                  by_cases g24 : ((v7 + (-1 : Int32)) < 0 ∨ 130 ≤ ((v7 + (-1 : Int32))).toNatClampNeg)
                  · rw [if_pos g24] at h; cases h
                  rw [if_neg g24] at h
                  by_cases g25 : (((v7 + (-1 : Int32)) + (1 : Int32)) < 0 ∨ 130 ≤ (((v7 + (-1 : Int32)) + (1 : Int32))).toNatClampNeg)
                  · rw [if_pos g25] at h; cases h
                  rw [if_neg g25] at h
                  refine am_ev_st 12 (f' := (13, [(8, .int (v8 + (1 : Int32))), (7, .int ((v7 + (-1 : Int32)) + (2 : Int32))), (11, .int (r5 / (10 : Int32))), (10, .int r5), (9, .int (jp ((v7 + (-1 : Int32))).toNatClampNeg)), (0, .ref 19), (1, .int v1), (2, .int v2), (3, .int v3), (4, .int v4), (5, .int v5), (6, .int v6)], [], (W9 N C E F P Q T G U H B O_19 ((upd (upd jp ((v7 + (-1 : Int32))).toNatClampNeg (jp ((v7 + (-1 : Int32))).toNatClampNeg)) (((v7 + (-1 : Int32)) + (1 : Int32))).toNatClampNeg (jp ((v7 + (-1 : Int32))).toNatClampNeg)), ji) V Y Z O9), k, n)) (g := True ∧ vp_in ((v7 + (-1 : Int32))) 130 ∧ True ∧ True ∧ True ∧ True ∧ True ∧ True ∧ vp_in (((v7 + (-1 : Int32)) + (1 : Int32))) 130 ∧ True ∧ True ∧ True ∧ True) (by with_unfolding_all rfl) ⟨trivial, g24, trivial, trivial, trivial, trivial, trivial, trivial, g25, trivial, trivial, trivial, trivial⟩ ?_
                  refine am_ev_drop [5, 6, 7, 8, 9, 10, 11, 1, 0] rfl rfl ?_
                  exact ih h
                · rw [if_neg c23] at h
                  refine am_ev_neg c23 ?_
                  by_cases g26 : ((v7 + (-1 : Int32)) < 0 ∨ 130 ≤ ((v7 + (-1 : Int32))).toNatClampNeg)
                  · rw [if_pos g26] at h; cases h
                  rw [if_neg g26] at h
                  by_cases g27 : (((v7 + (-1 : Int32)) + (1 : Int32)) < 0 ∨ 130 ≤ (((v7 + (-1 : Int32)) + (1 : Int32))).toNatClampNeg)
                  · rw [if_pos g27] at h; cases h
                  rw [if_neg g27] at h
                  refine am_ev_st 15 (f' := (13, [(8, .int (v8 + (1 : Int32))), (7, .int ((v7 + (-1 : Int32)) + (2 : Int32))), (11, .int (r5 / (10 : Int32))), (10, .int r5), (9, .int (jp ((v7 + (-1 : Int32))).toNatClampNeg)), (0, .ref 19), (1, .int v1), (2, .int v2), (3, .int v3), (4, .int v4), (5, .int v5), (6, .int v6)], [], (W9 N C E F P Q T G U H B O_19 ((upd (upd jp ((v7 + (-1 : Int32))).toNatClampNeg ((jp ((v7 + (-1 : Int32))).toNatClampNeg) + (1 : Int32))) (((v7 + (-1 : Int32)) + (1 : Int32))).toNatClampNeg (jp ((v7 + (-1 : Int32))).toNatClampNeg)), ji) V Y Z O9), k, n)) (g := True ∧ True ∧ True ∧ True ∧ vp_in ((v7 + (-1 : Int32))) 130 ∧ True ∧ True ∧ True ∧ True ∧ True ∧ True ∧ vp_in (((v7 + (-1 : Int32)) + (1 : Int32))) 130 ∧ True ∧ True ∧ True ∧ True) (by with_unfolding_all rfl) ⟨trivial, trivial, trivial, trivial, g26, trivial, trivial, trivial, trivial, trivial, trivial, g27, trivial, trivial, trivial, trivial⟩ ?_
                  refine am_ev_drop [5, 6, 7, 8, 9, 10, 11, 1, 0] rfl rfl ?_
                  exact ih h
              · rw [if_neg c21] at h
                refine am_ev_neg c21 ?_
                refine am_ev_st 3 (f' := (13, [(8, .int (v8 + (1 : Int32))), (11, .int (r5 / (10 : Int32))), (10, .int r5), (9, .int (jp ((v7 + (-1 : Int32))).toNatClampNeg)), (7, .int (v7 + (-1 : Int32))), (0, .ref 19), (1, .int v1), (2, .int v2), (3, .int v3), (4, .int v4), (5, .int v5), (6, .int v6)], [], (W9 N C E F P Q T G U H B O_19 (jp, ji) V Y Z O9), k, n)) (g := True ∧ True ∧ True ∧ True) (by with_unfolding_all rfl) ⟨trivial, trivial, trivial, trivial⟩ ?_
                refine am_ev_drop [5, 6, 7, 8, 9, 10, 11, 4, 0] rfl rfl ?_
                exact ih h
            · rw [if_neg c18] at h
              refine am_ev_neg c18 ?_
              refine am_ev_st 5 (f' := (94, [(11, .int (r5 / (10 : Int32))), (10, .int r5), (9, .int (jp ((v7 + (-1 : Int32))).toNatClampNeg)), (7, .int (v7 + (-1 : Int32))), (0, .ref 19), (1, .int v1), (2, .int v2), (3, .int v3), (4, .int v4), (5, .int v5), (6, .int v6), (8, .int v8)], [.int (jp ((v7 + (-1 : Int32))).toNatClampNeg), .int v6, .int v5, .int v4, .ref 19], (W9 N C E F P Q T G U H B (om, oo, og) (jp, ji) V Y Z O9), k, n)) (g := True ∧ True ∧ True ∧ True ∧ True ∧ True) (by with_unfolding_all rfl) ⟨trivial, trivial, trivial, trivial, trivial, trivial⟩ ?_
              replace h := Option.bind_eq_some_iff.mp h
              obtain ⟨⟨O_28, J_28⟩, hc28, h⟩ := h
              try dsimp only at h
              refine am_ev_call (.invokevirtual 98) 91 8 881 [.ref 19, .int v4, .int v5, .int v6, .int (jp ((v7 + (-1 : Int32))).toNatClampNeg)] [] rfl rfl rfl rfl (ok_fm_putRaised hc28 D (by omega)) rfl ?_
              refine am_ev_st 2 (f' := (111, [(11, .int (r5 / (10 : Int32))), (10, .int r5), (9, .int (jp ((v7 + (-1 : Int32))).toNatClampNeg)), (7, .int (v7 + (-1 : Int32))), (0, .ref 19), (1, .int v1), (2, .int v2), (3, .int v3), (4, .int v4), (5, .int v5), (6, .int v6), (8, .int v8)], [.int r5], (W9 N C E F P Q T G U H B O_28 J_28 V Y Z O9), k, n)) (g := True ∧ True ∧ True) (by with_unfolding_all rfl) ⟨trivial, trivial, trivial⟩ ?_
              replace h := Option.bind_eq_some_iff.mp h
              obtain ⟨r29, hc29, h⟩ := h
              try dsimp only at h
              refine am_ev_call (.invokestatic 73) 79 2 835 [.int r5] [] rfl rfl rfl rfl (ok_fm_hasParts hc29 D (by omega)) rfl ?_
              refine am_ev_st 1 (f' := am_br ((am_bz r29) ≠ 0) 120 114 [(11, .int (r5 / (10 : Int32))), (10, .int r5), (9, .int (jp ((v7 + (-1 : Int32))).toNatClampNeg)), (7, .int (v7 + (-1 : Int32))), (0, .ref 19), (1, .int v1), (2, .int v2), (3, .int v3), (4, .int v4), (5, .int v5), (6, .int v6), (8, .int v8)] [] (W9 N C E F P Q T G U H B O_28 J_28 V Y Z O9) k n) (g := True ∧ True) (by with_unfolding_all rfl) ⟨trivial, trivial⟩ ?_
              by_cases c30 : (am_bz r29) ≠ 0
              · rw [if_pos c30] at h
                refine am_ev_pos c30 ?_
                refine am_ev_st 4 (f' := (128, [(11, .int (r5 / (10 : Int32))), (10, .int r5), (9, .int (jp ((v7 + (-1 : Int32))).toNatClampNeg)), (7, .int (v7 + (-1 : Int32))), (0, .ref 19), (1, .int v1), (2, .int v2), (3, .int v3), (4, .int v4), (5, .int v5), (6, .int v6), (8, .int v8)], [.int r5, .int (v7 + (-1 : Int32)), .ref 29], (W9 N C E F P Q T G U H B O_28 J_28 V Y Z O9), k, n)) (g := True ∧ True ∧ True ∧ True ∧ True) (by with_unfolding_all rfl) ⟨trivial, trivial, trivial, trivial, trivial⟩ ?_
                replace h := Option.bind_eq_some_iff.mp h
                obtain ⟨r31, hc31, h⟩ := h
                try dsimp only at h
                refine am_ev_call (.invokestatic 84) 80 2 838 [.int r5] [.int (v7 + (-1 : Int32)), .ref 29] rfl rfl rfl rfl (ok_fm_bindsIn hc31 D (by omega)) rfl ?_
                refine am_ev_st 1 (f' := am_br ((am_bz r31) = 0) 141 131 [(11, .int (r5 / (10 : Int32))), (10, .int r5), (9, .int (jp ((v7 + (-1 : Int32))).toNatClampNeg)), (7, .int (v7 + (-1 : Int32))), (0, .ref 19), (1, .int v1), (2, .int v2), (3, .int v3), (4, .int v4), (5, .int v5), (6, .int v6), (8, .int v8)] [.int (v7 + (-1 : Int32)), .ref 29] (W9 N C E F P Q T G U H B O_28 J_28 V Y Z O9) k n) (g := True ∧ True) (by with_unfolding_all rfl) ⟨trivial, trivial⟩ ?_
                by_cases c32 : (am_bz r31) = 0
                · rw [if_pos c32] at h
                  refine am_ev_pos c32 ?_
                  obtain ⟨jp_28, ji_28⟩ := J_28
                  try dsimp only at h
                  by_cases g33 : ((v7 + (-1 : Int32)) < 0 ∨ 130 ≤ ((v7 + (-1 : Int32))).toNatClampNeg)
                  · rw [if_pos g33] at h; cases h
                  rw [if_neg g33] at h
                  by_cases g34 : (((v7 + (-1 : Int32)) + (1 : Int32)) < 0 ∨ 130 ≤ (((v7 + (-1 : Int32)) + (1 : Int32))).toNatClampNeg)
                  · rw [if_pos g34] at h; cases h
                  rw [if_neg g34] at h
                  refine am_ev_st 12 (f' := (13, [(8, .int (v8 + (1 : Int32))), (7, .int ((v7 + (-1 : Int32)) + (2 : Int32))), (11, .int (r5 / (10 : Int32))), (10, .int r5), (9, .int (jp ((v7 + (-1 : Int32))).toNatClampNeg)), (0, .ref 19), (1, .int v1), (2, .int v2), (3, .int v3), (4, .int v4), (5, .int v5), (6, .int v6)], [], (W9 N C E F P Q T G U H B O_28 ((upd (upd jp_28 ((v7 + (-1 : Int32))).toNatClampNeg (jp ((v7 + (-1 : Int32))).toNatClampNeg)) (((v7 + (-1 : Int32)) + (1 : Int32))).toNatClampNeg (jp ((v7 + (-1 : Int32))).toNatClampNeg)), ji_28) V Y Z O9), k, n)) (g := True ∧ vp_in ((v7 + (-1 : Int32))) 130 ∧ True ∧ True ∧ True ∧ True ∧ True ∧ True ∧ vp_in (((v7 + (-1 : Int32)) + (1 : Int32))) 130 ∧ True ∧ True ∧ True ∧ True) (by with_unfolding_all rfl) ⟨trivial, g33, trivial, trivial, trivial, trivial, trivial, trivial, g34, trivial, trivial, trivial, trivial⟩ ?_
                  refine am_ev_drop [5, 6, 7, 8, 9, 10, 11, 1, 0] rfl rfl ?_
                  exact ih h
                · rw [if_neg c32] at h
                  refine am_ev_neg c32 ?_
                  obtain ⟨jp_28, ji_28⟩ := J_28
                  try dsimp only at h
                  by_cases g35 : ((v7 + (-1 : Int32)) < 0 ∨ 130 ≤ ((v7 + (-1 : Int32))).toNatClampNeg)
                  · rw [if_pos g35] at h; cases h
                  rw [if_neg g35] at h
                  by_cases g36 : (((v7 + (-1 : Int32)) + (1 : Int32)) < 0 ∨ 130 ≤ (((v7 + (-1 : Int32)) + (1 : Int32))).toNatClampNeg)
                  · rw [if_pos g36] at h; cases h
                  rw [if_neg g36] at h
                  refine am_ev_st 15 (f' := (13, [(8, .int (v8 + (1 : Int32))), (7, .int ((v7 + (-1 : Int32)) + (2 : Int32))), (11, .int (r5 / (10 : Int32))), (10, .int r5), (9, .int (jp ((v7 + (-1 : Int32))).toNatClampNeg)), (0, .ref 19), (1, .int v1), (2, .int v2), (3, .int v3), (4, .int v4), (5, .int v5), (6, .int v6)], [], (W9 N C E F P Q T G U H B O_28 ((upd (upd jp_28 ((v7 + (-1 : Int32))).toNatClampNeg ((jp ((v7 + (-1 : Int32))).toNatClampNeg) + (1 : Int32))) (((v7 + (-1 : Int32)) + (1 : Int32))).toNatClampNeg (jp ((v7 + (-1 : Int32))).toNatClampNeg)), ji_28) V Y Z O9), k, n)) (g := True ∧ True ∧ True ∧ True ∧ vp_in ((v7 + (-1 : Int32))) 130 ∧ True ∧ True ∧ True ∧ True ∧ True ∧ True ∧ vp_in (((v7 + (-1 : Int32)) + (1 : Int32))) 130 ∧ True ∧ True ∧ True ∧ True) (by with_unfolding_all rfl) ⟨trivial, trivial, trivial, trivial, g35, trivial, trivial, trivial, trivial, trivial, trivial, g36, trivial, trivial, trivial, trivial⟩ ?_
                  refine am_ev_drop [5, 6, 7, 8, 9, 10, 11, 1, 0] rfl rfl ?_
                  exact ih h
              · rw [if_neg c30] at h
                refine am_ev_neg c30 ?_
                refine am_ev_st 3 (f' := (13, [(8, .int (v8 + (1 : Int32))), (11, .int (r5 / (10 : Int32))), (10, .int r5), (9, .int (jp ((v7 + (-1 : Int32))).toNatClampNeg)), (7, .int (v7 + (-1 : Int32))), (0, .ref 19), (1, .int v1), (2, .int v2), (3, .int v3), (4, .int v4), (5, .int v5), (6, .int v6)], [], (W9 N C E F P Q T G U H B O_28 J_28 V Y Z O9), k, n)) (g := True ∧ True ∧ True ∧ True) (by with_unfolding_all rfl) ⟨trivial, trivial, trivial, trivial⟩ ?_
                refine am_ev_drop [5, 6, 7, 8, 9, 10, 11, 4, 0] rfl rfl ?_
                exact ih h
          · rw [if_neg c17] at h
            refine am_ev_neg c17 ?_
            refine am_ev_st 2 (f' := (72, [(11, .int (r5 / (10 : Int32))), (10, .int r5), (9, .int (jp ((v7 + (-1 : Int32))).toNatClampNeg)), (7, .int (v7 + (-1 : Int32))), (0, .ref 19), (1, .int v1), (2, .int v2), (3, .int v3), (4, .int v4), (5, .int v5), (6, .int v6), (8, .int v8)], [.int r5, .ref 19], (W9 N C E F P Q T G U H B (om, oo, og) (jp, ji) V Y Z O9), k, n)) (g := True ∧ True ∧ True) (by with_unfolding_all rfl) ⟨trivial, trivial, trivial⟩ ?_
            replace h := Option.bind_eq_some_iff.mp h
            obtain ⟨O_37, hc37, h⟩ := h
            try dsimp only at h
            refine am_ev_call (.invokevirtual 94) 89 2 873 [.ref 19, .int r5] [] rfl rfl rfl rfl (ok_fm_put hc37 D (by omega)) rfl ?_
            refine am_ev_st 2 (f' := (111, [(11, .int (r5 / (10 : Int32))), (10, .int r5), (9, .int (jp ((v7 + (-1 : Int32))).toNatClampNeg)), (7, .int (v7 + (-1 : Int32))), (0, .ref 19), (1, .int v1), (2, .int v2), (3, .int v3), (4, .int v4), (5, .int v5), (6, .int v6), (8, .int v8)], [.int r5], (W9 N C E F P Q T G U H B O_37 (jp, ji) V Y Z O9), k, n)) (g := True ∧ True ∧ True) (by with_unfolding_all rfl) ⟨trivial, trivial, trivial⟩ ?_
            replace h := Option.bind_eq_some_iff.mp h
            obtain ⟨r38, hc38, h⟩ := h
            try dsimp only at h
            refine am_ev_call (.invokestatic 73) 79 2 835 [.int r5] [] rfl rfl rfl rfl (ok_fm_hasParts hc38 D (by omega)) rfl ?_
            refine am_ev_st 1 (f' := am_br ((am_bz r38) ≠ 0) 120 114 [(11, .int (r5 / (10 : Int32))), (10, .int r5), (9, .int (jp ((v7 + (-1 : Int32))).toNatClampNeg)), (7, .int (v7 + (-1 : Int32))), (0, .ref 19), (1, .int v1), (2, .int v2), (3, .int v3), (4, .int v4), (5, .int v5), (6, .int v6), (8, .int v8)] [] (W9 N C E F P Q T G U H B O_37 (jp, ji) V Y Z O9) k n) (g := True ∧ True) (by with_unfolding_all rfl) ⟨trivial, trivial⟩ ?_
            by_cases c39 : (am_bz r38) ≠ 0
            · rw [if_pos c39] at h
              refine am_ev_pos c39 ?_
              refine am_ev_st 4 (f' := (128, [(11, .int (r5 / (10 : Int32))), (10, .int r5), (9, .int (jp ((v7 + (-1 : Int32))).toNatClampNeg)), (7, .int (v7 + (-1 : Int32))), (0, .ref 19), (1, .int v1), (2, .int v2), (3, .int v3), (4, .int v4), (5, .int v5), (6, .int v6), (8, .int v8)], [.int r5, .int (v7 + (-1 : Int32)), .ref 29], (W9 N C E F P Q T G U H B O_37 (jp, ji) V Y Z O9), k, n)) (g := True ∧ True ∧ True ∧ True ∧ True) (by with_unfolding_all rfl) ⟨trivial, trivial, trivial, trivial, trivial⟩ ?_
              replace h := Option.bind_eq_some_iff.mp h
              obtain ⟨r40, hc40, h⟩ := h
              try dsimp only at h
              refine am_ev_call (.invokestatic 84) 80 2 838 [.int r5] [.int (v7 + (-1 : Int32)), .ref 29] rfl rfl rfl rfl (ok_fm_bindsIn hc40 D (by omega)) rfl ?_
              refine am_ev_st 1 (f' := am_br ((am_bz r40) = 0) 141 131 [(11, .int (r5 / (10 : Int32))), (10, .int r5), (9, .int (jp ((v7 + (-1 : Int32))).toNatClampNeg)), (7, .int (v7 + (-1 : Int32))), (0, .ref 19), (1, .int v1), (2, .int v2), (3, .int v3), (4, .int v4), (5, .int v5), (6, .int v6), (8, .int v8)] [.int (v7 + (-1 : Int32)), .ref 29] (W9 N C E F P Q T G U H B O_37 (jp, ji) V Y Z O9) k n) (g := True ∧ True) (by with_unfolding_all rfl) ⟨trivial, trivial⟩ ?_
              by_cases c41 : (am_bz r40) = 0
              · rw [if_pos c41] at h
                refine am_ev_pos c41 ?_
                by_cases g42 : ((v7 + (-1 : Int32)) < 0 ∨ 130 ≤ ((v7 + (-1 : Int32))).toNatClampNeg)
                · rw [if_pos g42] at h; cases h
                rw [if_neg g42] at h
                by_cases g43 : (((v7 + (-1 : Int32)) + (1 : Int32)) < 0 ∨ 130 ≤ (((v7 + (-1 : Int32)) + (1 : Int32))).toNatClampNeg)
                · rw [if_pos g43] at h; cases h
                rw [if_neg g43] at h
                refine am_ev_st 12 (f' := (13, [(8, .int (v8 + (1 : Int32))), (7, .int ((v7 + (-1 : Int32)) + (2 : Int32))), (11, .int (r5 / (10 : Int32))), (10, .int r5), (9, .int (jp ((v7 + (-1 : Int32))).toNatClampNeg)), (0, .ref 19), (1, .int v1), (2, .int v2), (3, .int v3), (4, .int v4), (5, .int v5), (6, .int v6)], [], (W9 N C E F P Q T G U H B O_37 ((upd (upd jp ((v7 + (-1 : Int32))).toNatClampNeg (jp ((v7 + (-1 : Int32))).toNatClampNeg)) (((v7 + (-1 : Int32)) + (1 : Int32))).toNatClampNeg (jp ((v7 + (-1 : Int32))).toNatClampNeg)), ji) V Y Z O9), k, n)) (g := True ∧ vp_in ((v7 + (-1 : Int32))) 130 ∧ True ∧ True ∧ True ∧ True ∧ True ∧ True ∧ vp_in (((v7 + (-1 : Int32)) + (1 : Int32))) 130 ∧ True ∧ True ∧ True ∧ True) (by with_unfolding_all rfl) ⟨trivial, g42, trivial, trivial, trivial, trivial, trivial, trivial, g43, trivial, trivial, trivial, trivial⟩ ?_
                refine am_ev_drop [5, 6, 7, 8, 9, 10, 11, 1, 0] rfl rfl ?_
                exact ih h
              · rw [if_neg c41] at h
                refine am_ev_neg c41 ?_
                by_cases g44 : ((v7 + (-1 : Int32)) < 0 ∨ 130 ≤ ((v7 + (-1 : Int32))).toNatClampNeg)
                · rw [if_pos g44] at h; cases h
                rw [if_neg g44] at h
                by_cases g45 : (((v7 + (-1 : Int32)) + (1 : Int32)) < 0 ∨ 130 ≤ (((v7 + (-1 : Int32)) + (1 : Int32))).toNatClampNeg)
                · rw [if_pos g45] at h; cases h
                rw [if_neg g45] at h
                refine am_ev_st 15 (f' := (13, [(8, .int (v8 + (1 : Int32))), (7, .int ((v7 + (-1 : Int32)) + (2 : Int32))), (11, .int (r5 / (10 : Int32))), (10, .int r5), (9, .int (jp ((v7 + (-1 : Int32))).toNatClampNeg)), (0, .ref 19), (1, .int v1), (2, .int v2), (3, .int v3), (4, .int v4), (5, .int v5), (6, .int v6)], [], (W9 N C E F P Q T G U H B O_37 ((upd (upd jp ((v7 + (-1 : Int32))).toNatClampNeg ((jp ((v7 + (-1 : Int32))).toNatClampNeg) + (1 : Int32))) (((v7 + (-1 : Int32)) + (1 : Int32))).toNatClampNeg (jp ((v7 + (-1 : Int32))).toNatClampNeg)), ji) V Y Z O9), k, n)) (g := True ∧ True ∧ True ∧ True ∧ vp_in ((v7 + (-1 : Int32))) 130 ∧ True ∧ True ∧ True ∧ True ∧ True ∧ True ∧ vp_in (((v7 + (-1 : Int32)) + (1 : Int32))) 130 ∧ True ∧ True ∧ True ∧ True) (by with_unfolding_all rfl) ⟨trivial, trivial, trivial, trivial, g44, trivial, trivial, trivial, trivial, trivial, trivial, g45, trivial, trivial, trivial, trivial⟩ ?_
                refine am_ev_drop [5, 6, 7, 8, 9, 10, 11, 1, 0] rfl rfl ?_
                exact ih h
            · rw [if_neg c39] at h
              refine am_ev_neg c39 ?_
              refine am_ev_st 3 (f' := (13, [(8, .int (v8 + (1 : Int32))), (11, .int (r5 / (10 : Int32))), (10, .int r5), (9, .int (jp ((v7 + (-1 : Int32))).toNatClampNeg)), (7, .int (v7 + (-1 : Int32))), (0, .ref 19), (1, .int v1), (2, .int v2), (3, .int v3), (4, .int v4), (5, .int v5), (6, .int v6)], [], (W9 N C E F P Q T G U H B O_37 (jp, ji) V Y Z O9), k, n)) (g := True ∧ True ∧ True ∧ True) (by with_unfolding_all rfl) ⟨trivial, trivial, trivial, trivial⟩ ?_
              refine am_ev_drop [5, 6, 7, 8, 9, 10, 11, 4, 0] rfl rfl ?_
              exact ih h
set_option maxHeartbeats 4000000 in
set_option maxRecDepth 100000 in
theorem ok_fm_putFor {fl : Nat} {N : cN} {C : cC} {E : cE} {F : cF} {P : cP} {Q : cQ} {T : cT} {G : cG} {U : cU} {H : cH} {B : cB} {O : cO} {J : cJ} {V : cV} {Y : cY} {Z : cZ} {O9 : cO9} {k n : Nat} {p1 p2 p3 p4 p5 p6 : Int32} {O' : cO} {J' : cJ} (h : fm_putFor fl B O J p1 p2 p3 p4 p5 p6 = some (O', J')) (D : Nat) (hD : 3 ≤ D) : am_Call D 92 [.ref 19, .int p1, .int p2, .int p3, .int p4, .int p5, .int p6] (W9 N C E F P Q T G U H B O J V Y Z O9) k n (.inl none, W9 N C E F P Q T G U H B O' J' V Y Z O9, k, n) := by
  unfold fm_putFor at h
  obtain ⟨D, rfl⟩ : ∃ D', D = D' + 1 := ⟨D - 1, by omega⟩
  have hD : 2 ≤ D := by omega
  refine am_call_run (by decide) (by decide) rfl (Nat.le_of_ble_eq_true rfl) (by decide) (L := [(0, .ref 19), (1, .int p1), (2, .int p2), (3, .int p3), (4, .int p4), (5, .int p5), (6, .int p6)]) rfl ?_
  obtain ⟨jp, ji⟩ := J
  try dsimp only at h
  by_cases g1 : ((0 : Int32) < 0 ∨ 130 ≤ ((0 : Int32)).toNatClampNeg)
  · rw [if_pos g1] at h; cases h
  rw [if_neg g1] at h
  refine am_ev_st 9 (f' := (13, [(8, .int p2), (7, .int (1 : Int32)), (0, .ref 19), (1, .int p1), (2, .int p2), (3, .int p3), (4, .int p4), (5, .int p5), (6, .int p6)], [], (W9 N C E F P Q T G U H B O ((upd jp ((0 : Int32)).toNatClampNeg (0 : Int32)), ji) V Y Z O9), k, n)) (g := True ∧ True ∧ True ∧ True ∧ True ∧ True ∧ vp_in ((0 : Int32)) 130 ∧ True ∧ True ∧ True) (by with_unfolding_all rfl) ⟨trivial, trivial, trivial, trivial, trivial, trivial, g1, trivial, trivial, trivial⟩ ?_
  refine am_ev_drop [2, 3, 4, 5, 6, 7, 8, 1, 0] rfl rfl ?_
  exact ok_lp_fm_putFor_13 h D hD
