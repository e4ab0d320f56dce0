def fm_at (B : cB) (p1 p2 : Int32) : Option (Int32) :=
  match B with
  | (br, bl) =>
  if ((((60 : Int32) * p1) + p2) < 0 ∨ 5760 ≤ ((((60 : Int32) * p1) + p2)).toNatClampNeg) then none else
  some (br ((((60 : Int32) * p1) + p2)).toNatClampNeg)
set_option maxHeartbeats 4000000 in
set_option maxRecDepth 100000 in
theorem ok_fm_at  {N : cN} {C : cC} {E : cE} {F : cF} {P : cP} {Q : cQ} {T : cT} {G : cG} {U : cU} {H : cH} {B : cB} {O : cO} {J : cJ} {V : cV} {Y : cY} {Z : cZ} {O9 : cO9} {k n : Nat} {p1 p2 : Int32} {rv : Int32} (h : fm_at B p1 p2 = some rv) (D : Nat) (hD : 1 ≤ D) : am_Call D 81 [.ref 19, .int p1, .int p2] (W9 N C E F P Q T G U H B O J V Y Z O9) k n (.inl (some (.int rv)), W9 N C E F P Q T G U H B O J V Y Z O9, k, n) := by
  unfold fm_at at h
  obtain ⟨D, rfl⟩ : ∃ D', D = D' + 1 := ⟨D - 1, by omega⟩
  have hD : 0 ≤ D := by omega
  refine am_call_run (by decide) (by decide) rfl (Nat.le_of_ble_eq_true rfl) (by decide) (L := [(0, .ref 19), (1, .int p1), (2, .int p2)]) rfl ?_
  obtain ⟨br, bl⟩ := B
  try dsimp only at h
  by_cases g1 : ((((60 : Int32) * p1) + p2) < 0 ∨ 5760 ≤ ((((60 : Int32) * p1) + p2)).toNatClampNeg)
  · rw [if_pos g1] at h; cases h
  rw [if_neg g1] at h
  refine am_ev_st 8 (f' := (11, [(0, .ref 19), (1, .int p1), (2, .int p2)], [.int (br ((((60 : Int32) * p1) + p2)).toNatClampNeg)], (W9 N C E F P Q T G U H (br, bl) O J V Y Z O9), k, n)) (g := True ∧ True ∧ True ∧ True ∧ True ∧ True ∧ True ∧ vp_in ((((60 : Int32) * p1) + p2)) 5760 ∧ True) (by with_unfolding_all rfl) ⟨trivial, trivial, trivial, trivial, trivial, trivial, trivial, g1, trivial⟩ ?_
  cases h
  exact am_ev_ret 0 0 0 rfl .int rfl rfl rfl
def fm_hasParts (p1 : Int32) : Option (Bool) :=
  if (p1 - p1 / (10 : Int32) * (10 : Int32)) < (2 : Int32) then
  (some false)
  else
  if (4 : Int32) < (p1 - p1 / (10 : Int32) * (10 : Int32)) then
  (some false)
  else
  some true
set_option maxHeartbeats 4000000 in
set_option maxRecDepth 100000 in
theorem ok_fm_hasParts  {N : cN} {C : cC} {E : cE} {F : cF} {P : cP} {Q : cQ} {T : cT} {G : cG} {U : cU} {H : cH} {B : cB} {O : cO} {J : cJ} {V : cV} {Y : cY} {Z : cZ} {O9 : cO9} {k n : Nat} {p1 : Int32} {rv : Bool} (h : fm_hasParts p1 = some rv) (D : Nat) (hD : 1 ≤ D) : am_Call D 79 [.int p1] (W9 N C E F P Q T G U H B O J V Y Z O9) k n (.inl (some (.int (am_bz rv))), W9 N C E F P Q T G U H B O J V Y Z O9, k, n) := by
  unfold fm_hasParts at h
  obtain ⟨D, rfl⟩ : ∃ D', D = D' + 1 := ⟨D - 1, by omega⟩
  have hD : 0 ≤ D := by omega
  refine am_call_run (by decide) (by decide) rfl (Nat.le_of_ble_eq_true rfl) (by decide) (L := [(0, .int p1)]) rfl ?_
  refine am_ev_st 5 (f' := am_br ((p1 - p1 / (10 : Int32) * (10 : Int32)) < (2 : Int32)) 20 5 [(0, .int p1)] [] (W9 N C E F P Q T G U H B O J V Y Z O9) k n) (g := True ∧ True ∧ ¬ ((10 : Int32) = 0) ∧ True ∧ True ∧ True) (by with_unfolding_all rfl) ⟨trivial, trivial, by decide, trivial, trivial, trivial⟩ ?_
  by_cases c1 : (p1 - p1 / (10 : Int32) * (10 : Int32)) < (2 : Int32)
  · rw [if_pos c1] at h
    refine am_ev_pos c1 ?_
    refine am_ev_st 1 (f' := (21, [(0, .int p1)], [.int (0 : Int32)], (W9 N C E F P Q T G U H B O J V Y Z O9), k, n)) (g := True ∧ True) (by with_unfolding_all rfl) ⟨trivial, trivial⟩ ?_
    cases h
    exact am_ev_ret 0 0 0 rfl .boolean rfl am_n0 rfl
  · rw [if_neg c1] at h
    refine am_ev_neg c1 ?_
    refine am_ev_st 5 (f' := am_br ((4 : Int32) < (p1 - p1 / (10 : Int32) * (10 : Int32))) 20 13 [(0, .int p1)] [] (W9 N C E F P Q T G U H B O J V Y Z O9) k n) (g := True ∧ True ∧ ¬ ((10 : Int32) = 0) ∧ True ∧ True ∧ True) (by with_unfolding_all rfl) ⟨trivial, trivial, by decide, trivial, trivial, trivial⟩ ?_
    by_cases c2 : (4 : Int32) < (p1 - p1 / (10 : Int32) * (10 : Int32))
    · rw [if_pos c2] at h
      refine am_ev_pos c2 ?_
      refine am_ev_st 1 (f' := (21, [(0, .int p1)], [.int (0 : Int32)], (W9 N C E F P Q T G U H B O J V Y Z O9), k, n)) (g := True ∧ True) (by with_unfolding_all rfl) ⟨trivial, trivial⟩ ?_
      cases h
      exact am_ev_ret 0 0 0 rfl .boolean rfl am_n0 rfl
    · rw [if_neg c2] at h
      refine am_ev_neg c2 ?_
      refine am_ev_st 2 (f' := (21, [(0, .int p1)], [.int (1 : Int32)], (W9 N C E F P Q T G U H B O J V Y Z O9), k, n)) (g := True ∧ True ∧ True) (by with_unfolding_all rfl) ⟨trivial, trivial, trivial⟩ ?_
      cases h
      exact am_ev_ret 0 0 0 rfl .boolean rfl am_n1 rfl
def lp_fm_endOf_5 (fl : Nat) : Nat → cB → Int32 → Int32 → Int32 → Int32 → Option (Int32)
  | 0, _, _, _, _, _ => none
  | w + 1, B, v1, v2, v3, v4 =>
    if v3 ≤ 0 then
    (some v4)
    else
    (fm_at B v1 v4).bind fun z2 =>
    match z2 with
    | (r2) =>
    (fm_hasParts r2).bind fun z3 =>
    match z3 with
    | (r3) =>
    if (am_bz r3) = 0 then
    (lp_fm_endOf_5 fl w B v1 v2 (v3 - (1 : Int32)) (v4 + (1 : Int32)))
    else
    lp_fm_endOf_5 fl w B v1 v2 (v3 + (1 : Int32)) (v4 + (1 : Int32))
def fm_endOf (fl : Nat) (B : cB) (p1 p2 : Int32) : Option (Int32) :=
  lp_fm_endOf_5 fl fl B p1 p2 (1 : Int32) p2
set_option maxHeartbeats 4000000 in
set_option maxRecDepth 100000 in
theorem ok_lp_fm_endOf_5 {fl : Nat} : ∀ {w : Nat} {N : cN} {C : cC} {E : cE} {F : cF} {P : cP} {Q : cQ} {T : cT} {G : cG} {U : cU} {H : cH} {B : cB} {O : cO} {J : cJ} {V : cV} {Y : cY} {Z : cZ} {O9 : cO9} {k n : Nat} {v1 : Int32} {v2 : Int32} {v3 : Int32} {v4 : Int32} {rv : Int32} (h : lp_fm_endOf_5 fl w B v1 v2 v3 v4 = some rv) (D : Nat) (hD : 1 ≤ D), am_Ev D 82 0 (fun _ => 0) (5, [(0, .ref 19), (1, .int v1), (2, .int v2), (3, .int v3), (4, .int v4)], [], (W9 N C E F P Q T G U H B O J V Y Z O9), k, n) (.inl (some (.int rv)), W9 N C E F P Q T G U H B O J V Y Z O9, k, n) := by
  intro w
  induction w with
  | zero => intros; rename_i h _ _; cases h
  | succ w ih0 =>
    intro N C E F P Q T G U H B O J V Y Z O9 k n v1 v2 v3 v4 rv h D hD
    have ih := fun {N} {C} {E} {F} {P} {Q} {T} {G} {U} {H} {B} {O} {J} {V} {Y} {Z} {O9} {k} {n} {v1} {v2} {v3} {v4} {rv} h => @ih0 N C E F P Q T G U H B O J V Y Z O9 k n v1 v2 v3 v4 rv h D hD
    unfold lp_fm_endOf_5 at h
    refine am_ev_st 2 (f' := am_br (v3 ≤ 0) 38 6 [(0, .ref 19), (1, .int v1), (2, .int v2), (3, .int v3), (4, .int v4)] [] (W9 N C E F P Q T G U H B O J V Y Z O9) k n) (g := True ∧ True ∧ True) (by with_unfolding_all rfl) ⟨trivial, trivial, trivial⟩ ?_
    by_cases c1 : v3 ≤ 0
    · rw [if_pos c1] at h
      refine am_ev_pos c1 ?_
      refine am_ev_st 1 (f' := (40, [(0, .ref 19), (1, .int v1), (2, .int v2), (3, .int v3), (4, .int v4)], [.int v4], (W9 N C E F P Q T G U H B O J V Y Z O9), k, n)) (g := True ∧ True) (by with_unfolding_all rfl) ⟨trivial, trivial⟩ ?_
      cases h
      exact am_ev_ret 0 0 0 rfl .int rfl rfl rfl
    · rw [if_neg c1] at h
      refine am_ev_neg c1 ?_
      refine am_ev_st 3 (f' := (13, [(0, .ref 19), (1, .int v1), (2, .int v2), (3, .int v3), (4, .int v4)], [.int v4, .int v1, .ref 19], (W9 N C E F P Q T G U H B O J V Y Z O9), k, n)) (g := True ∧ True ∧ True ∧ True) (by with_unfolding_all rfl) ⟨trivial, trivial, trivial, trivial⟩ ?_
      replace h := Option.bind_eq_some_iff.mp h
      obtain ⟨r2, hc2, h⟩ := h
      try dsimp only at h
      refine am_ev_call (.invokevirtual 69) 81 4 820 [.ref 19, .int v1, .int v4] [] rfl rfl rfl rfl (ok_fm_at hc2 D (by omega)) rfl ?_
      replace h := Option.bind_eq_some_iff.mp h
      obtain ⟨r3, hc3, h⟩ := h
      try dsimp only at h
      refine am_ev_call (.invokestatic 73) 79 2 835 [.int r2] [] rfl rfl rfl rfl (ok_fm_hasParts hc3 D (by omega)) rfl ?_
      refine am_ev_st 1 (f' := am_br ((am_bz r3) = 0) 28 19 [(0, .ref 19), (1, .int v1), (2, .int v2), (3, .int v3), (4, .int v4)] [] (W9 N C E F P Q T G U H B O J V Y Z O9) k n) (g := True ∧ True) (by with_unfolding_all rfl) ⟨trivial, trivial⟩ ?_
      by_cases c4 : (am_bz r3) = 0
      · rw [if_pos c4] at h
        refine am_ev_pos c4 ?_
        refine am_ev_st 6 (f' := (5, [(4, .int (v4 + (1 : Int32))), (3, .int (v3 - (1 : Int32))), (0, .ref 19), (1, .int v1), (2, .int v2)], [], (W9 N C E F P Q T G U H B O J V Y Z O9), k, n)) (g := True ∧ True ∧ True ∧ True ∧ True ∧ True ∧ True) (by with_unfolding_all rfl) ⟨trivial, trivial, trivial, trivial, trivial, trivial, trivial⟩ ?_
        refine am_ev_drop [2, 3, 4, 1, 0] rfl rfl ?_
        exact ih h
      · rw [if_neg c4] at h
        refine am_ev_neg c4 ?_
        refine am_ev_st 7 (f' := (5, [(4, .int (v4 + (1 : Int32))), (3, .int (v3 + (1 : Int32))), (0, .ref 19), (1, .int v1), (2, .int v2)], [], (W9 N C E F P Q T G U H B O J V Y Z O9), k, n)) (g := True ∧ True ∧ True ∧ True ∧ True ∧ True ∧ True ∧ True) (by with_unfolding_all rfl) ⟨trivial, trivial, trivial, trivial, trivial, trivial, trivial, trivial⟩ ?_
        refine am_ev_drop [2, 3, 4, 1, 0] rfl rfl ?_
        exact ih h
set_option maxHeartbeats 4000000 in
set_option maxRecDepth 100000 in
theorem ok_fm_endOf {fl : Nat} {N : cN} {C : cC} {E : cE} {F : cF} {P : cP} {Q : cQ} {T : cT} {G : cG} {U : cU} {H : cH} {B : cB} {O : cO} {J : cJ} {V : cV} {Y : cY} {Z : cZ} {O9 : cO9} {k n : Nat} {p1 p2 : Int32} {rv : Int32} (h : fm_endOf fl B p1 p2 = some rv) (D : Nat) (hD : 2 ≤ D) : am_Call D 82 [.ref 19, .int p1, .int p2] (W9 N C E F P Q T G U H B O J V Y Z O9) k n (.inl (some (.int rv)), W9 N C E F P Q T G U H B O J V Y Z O9, k, n) := by
  unfold fm_endOf at h
  obtain ⟨D, rfl⟩ : ∃ D', D = D' + 1 := ⟨D - 1, by omega⟩
  have hD : 1 ≤ D := by omega
  refine am_call_run (by decide) (by decide) rfl (Nat.le_of_ble_eq_true rfl) (by decide) (L := [(0, .ref 19), (1, .int p1), (2, .int p2)]) rfl ?_
  refine am_ev_st 4 (f' := (5, [(4, .int p2), (3, .int (1 : Int32)), (0, .ref 19), (1, .int p1), (2, .int p2)], [], (W9 N C E F P Q T G U H B O J V Y Z O9), k, n)) (g := True ∧ True ∧ True ∧ True ∧ True) (by with_unfolding_all rfl) ⟨trivial, trivial, trivial, trivial, trivial⟩ ?_
  refine am_ev_drop [2, 3, 4, 1, 0] rfl rfl ?_
  exact ok_lp_fm_endOf_5 h D hD
def lp_fm_copyPart_11 (fl : Nat) : Nat → cB → Int32 → Int32 → Int32 → Int32 → Int32 → Option (cB)
  | 0, _, _, _, _, _, _ => none
  | w + 1, B, v1, v2, v3, v4, v5 =>
    if v4 ≤ v5 then
    (match B with
    | (br, bl) =>
    if (v1 < 0 ∨ 96 ≤ (v1).toNatClampNeg) then none else
    some (br, (upd bl (v1).toNatClampNeg (v4 - v3))))
    else
    (fm_at B v2 v5).bind fun z4 =>
    match z4 with
    | (r4) =>
    match B with
    | (br, bl) =>
    if (((((60 : Int32) * v1) + v5) - v3) < 0 ∨ 5760 ≤ (((((60 : Int32) * v1) + v5) - v3)).toNatClampNeg) then none else
    lp_fm_copyPart_11 fl w ((upd br (((((60 : Int32) * v1) + v5) - v3)).toNatClampNeg r4), bl) v1 v2 v3 v4 (v5 + (1 : Int32))
def fm_copyPart (fl : Nat) (B : cB) (p1 p2 p3 : Int32) : Option (cB) :=
  (fm_endOf fl B p2 p3).bind fun z1 =>
  match z1 with
  | (r1) =>
  lp_fm_copyPart_11 fl fl B p1 p2 p3 r1 p3
set_option maxHeartbeats 4000000 in
set_option maxRecDepth 100000 in
theorem ok_lp_fm_copyPart_11 {fl : Nat} : ∀ {w : Nat} {N : cN} {C : cC} {E : cE} {F : cF} {P : cP} {Q : cQ} {T : cT} {G : cG} {U : cU} {H : cH} {B : cB} {O : cO} {J : cJ} {V : cV} {Y : cY} {Z : cZ} {O9 : cO9} {k n : Nat} {v1 : Int32} {v2 : Int32} {v3 : Int32} {v4 : Int32} {v5 : Int32} {B' : cB} (h : lp_fm_copyPart_11 fl w B v1 v2 v3 v4 v5 = some B') (D : Nat) (hD : 2 ≤ D), am_Ev D 83 0 (fun _ => 0) (11, [(0, .ref 19), (1, .int v1), (2, .int v2), (3, .int v3), (4, .int v4), (5, .int v5)], [], (W9 N C E F P Q T G U H B O J V Y Z O9), k, n) (.inl none, W9 N C E F P Q T G U H B' O J V Y Z O9, k, n) := by
  intro w
  induction w with
  | zero => intros; rename_i h _ _; cases h
  | succ w ih0 =>
    intro N C E F P Q T G U H B O J V Y Z O9 k n v1 v2 v3 v4 v5 B' h D hD
    have ih := fun {N} {C} {E} {F} {P} {Q} {T} {G} {U} {H} {B} {O} {J} {V} {Y} {Z} {O9} {k} {n} {v1} {v2} {v3} {v4} {v5} {B'} h => @ih0 N C E F P Q T G U H B O J V Y Z O9 k n v1 v2 v3 v4 v5 B' h D hD
    unfold lp_fm_copyPart_11 at h
    refine am_ev_st 3 (f' := am_br (v4 ≤ v5) 45 15 [(0, .ref 19), (1, .int v1), (2, .int v2), (3, .int v3), (4, .int v4), (5, .int v5)] [] (W9 N C E F P Q T G U H B O J V Y Z O9) k n) (g := True ∧ True ∧ True ∧ True) (by with_unfolding_all rfl) ⟨trivial, trivial, trivial, trivial⟩ ?_
    by_cases c2 : v4 ≤ v5
    · rw [if_pos c2] at h
      refine am_ev_pos c2 ?_
      obtain ⟨br, bl⟩ := B
      try dsimp only at h
      by_cases g3 : (v1 < 0 ∨ 96 ≤ (v1).toNatClampNeg)
      · rw [if_pos g3] at h; cases h
      rw [if_neg g3] at h
      refine am_ev_st 7 (f' := (55, [(0, .ref 19), (1, .int v1), (2, .int v2), (3, .int v3), (4, .int v4), (5, .int v5)], [], (W9 N C E F P Q T G U H (br, (upd bl (v1).toNatClampNeg (v4 - v3))) O J V Y Z O9), k, n)) (g := True ∧ True ∧ True ∧ True ∧ True ∧ True ∧ vp_in (v1) 96 ∧ True) (by with_unfolding_all rfl) ⟨trivial, trivial, trivial, trivial, trivial, trivial, g3, trivial⟩ ?_
      cases h
      exact am_ev_vret 0 0 0 rfl rfl rfl
    · rw [if_neg c2] at h
      refine am_ev_neg c2 ?_
      refine am_ev_st 12 (f' := (35, [(0, .ref 19), (1, .int v1), (2, .int v2), (3, .int v3), (4, .int v4), (5, .int v5)], [.int v5, .int v2, .ref 19, .int ((((60 : Int32) * v1) + v5) - v3), .ref 26], (W9 N C E F P Q T G U H B O J V Y Z O9), k, n)) (g := True ∧ True ∧ True ∧ True ∧ True ∧ True ∧ True ∧ True ∧ True ∧ True ∧ True ∧ True ∧ True) (by with_unfolding_all rfl) ⟨trivial, trivial, trivial, trivial, trivial, trivial, trivial, trivial, trivial, trivial, trivial, trivial, trivial⟩ ?_
      replace h := Option.bind_eq_some_iff.mp h
      obtain ⟨r4, hc4, h⟩ := h
      try dsimp only at h
      refine am_ev_call (.invokevirtual 69) 81 4 820 [.ref 19, .int v2, .int v5] [.int ((((60 : Int32) * v1) + v5) - v3), .ref 26] rfl rfl rfl rfl (ok_fm_at hc4 D (by omega)) rfl ?_
      obtain ⟨br, bl⟩ := B
      try dsimp only at h
      by_cases g5 : (((((60 : Int32) * v1) + v5) - v3) < 0 ∨ 5760 ≤ (((((60 : Int32) * v1) + v5) - v3)).toNatClampNeg)
      · rw [if_pos g5] at h; cases h
      rw [if_neg g5] at h
      refine am_ev_st 3 (f' := (11, [(5, .int (v5 + (1 : Int32))), (0, .ref 19), (1, .int v1), (2, .int v2), (3, .int v3), (4, .int v4)], [], (W9 N C E F P Q T G U H ((upd br (((((60 : Int32) * v1) + v5) - v3)).toNatClampNeg r4), bl) O J V Y Z O9), k, n)) (g := vp_in (((((60 : Int32) * v1) + v5) - v3)) 5760 ∧ True ∧ True ∧ True) (by with_unfolding_all rfl) ⟨g5, trivial, trivial, trivial⟩ ?_
      refine am_ev_drop [1, 2, 3, 4, 5, 0] rfl rfl ?_
      exact ih h
set_option maxHeartbeats 4000000 in
set_option maxRecDepth 100000 in
theorem ok_fm_copyPart {fl : Nat} {N : cN} {C : cC} {E : cE} {F : cF} {P : cP} {Q : cQ} {T : cT} {G : cG} {U : cU} {H : cH} {B : cB} {O : cO} {J : cJ} {V : cV} {Y : cY} {Z : cZ} {O9 : cO9} {k n : Nat} {p1 p2 p3 : Int32} {B' : cB} (h : fm_copyPart fl B p1 p2 p3 = some B') (D : Nat) (hD : 3 ≤ D) : am_Call D 83 [.ref 19, .int p1, .int p2, .int p3] (W9 N C E F P Q T G U H B O J V Y Z O9) k n (.inl none, W9 N C E F P Q T G U H B' O J V Y Z O9, k, n) := by
  unfold fm_copyPart at h
  obtain ⟨D, rfl⟩ : ∃ D', D = D' + 1 := ⟨D - 1, by omega⟩
  have hD : 2 ≤ D := by omega
  refine am_call_run (by decide) (by decide) rfl (Nat.le_of_ble_eq_true rfl) (by decide) (L := [(0, .ref 19), (1, .int p1), (2, .int p2), (3, .int p3)]) rfl ?_
  refine am_ev_st 3 (f' := (3, [(0, .ref 19), (1, .int p1), (2, .int p2), (3, .int p3)], [.int p3, .int p2, .ref 19], (W9 N C E F P Q T G U H B O J V Y Z O9), k, n)) (g := True ∧ True ∧ True ∧ True) (by with_unfolding_all rfl) ⟨trivial, trivial, trivial, trivial⟩ ?_
  replace h := Option.bind_eq_some_iff.mp h
  obtain ⟨r1, hc1, h⟩ := h
  try dsimp only at h
  refine am_ev_call (.invokevirtual 77) 82 4 853 [.ref 19, .int p2, .int p3] [] rfl rfl rfl rfl (ok_fm_endOf hc1 D (by omega)) rfl ?_
  refine am_ev_st 3 (f' := (11, [(5, .int p3), (4, .int r1), (0, .ref 19), (1, .int p1), (2, .int p2), (3, .int p3)], [], (W9 N C E F P Q T G U H B O J V Y Z O9), k, n)) (g := True ∧ True ∧ True ∧ True) (by with_unfolding_all rfl) ⟨trivial, trivial, trivial, trivial⟩ ?_
  refine am_ev_drop [2, 3, 4, 5, 1, 0] rfl rfl ?_
  exact ok_lp_fm_copyPart_11 h D hD
def fm_ask (Y : cY) (p1 : Int32) : Option (cY) :=
  match Y with
  | (yo, ya, ys, yl, yt, yk, yc) =>
  if (yo < 0 ∨ 40 ≤ (yo).toNatClampNeg) then none else
  if (yo < 0 ∨ 40 ≤ (yo).toNatClampNeg) then none else
  some ((yo + (1 : Int32)), (upd ya (yo).toNatClampNeg p1), (upd ys (yo).toNatClampNeg (0 : Int32)), yl, yt, yk, yc)
set_option maxHeartbeats 4000000 in
set_option maxRecDepth 100000 in
theorem ok_fm_ask  {N : cN} {C : cC} {E : cE} {F : cF} {P : cP} {Q : cQ} {T : cT} {G : cG} {U : cU} {H : cH} {B : cB} {O : cO} {J : cJ} {V : cV} {Y : cY} {Z : cZ} {O9 : cO9} {k n : Nat} {p1 : Int32} {Y' : cY} (h : fm_ask Y p1 = some Y') (D : Nat) (hD : 1 ≤ D) : am_Call D 98 [.ref 19, .int p1] (W9 N C E F P Q T G U H B O J V Y Z O9) k n (.inl none, W9 N C E F P Q T G U H B O J V Y' Z O9, k, n) := by
  unfold fm_ask at h
  obtain ⟨D, rfl⟩ : ∃ D', D = D' + 1 := ⟨D - 1, by omega⟩
  have hD : 0 ≤ D := by omega
  refine am_call_run (by decide) (by decide) rfl (Nat.le_of_ble_eq_true rfl) (by decide) (L := [(0, .ref 19), (1, .int p1)]) rfl ?_
  obtain ⟨yo, ya, ys, yl, yt, yk, yc⟩ := Y
  try dsimp only at h
  by_cases g1 : (yo < 0 ∨ 40 ≤ (yo).toNatClampNeg)
  · rw [if_pos g1] at h; cases h
  rw [if_neg g1] at h
  by_cases g2 : (yo < 0 ∨ 40 ≤ (yo).toNatClampNeg)
  · rw [if_pos g2] at h; cases h
  rw [if_neg g2] at h
  refine am_ev_st 18 (f' := (30, [(0, .ref 19), (1, .int p1)], [], (W9 N C E F P Q T G U H B O J V ((yo + (1 : Int32)), (upd ya (yo).toNatClampNeg p1), (upd ys (yo).toNatClampNeg (0 : Int32)), yl, yt, yk, yc) Z O9), k, n)) (g := True ∧ True ∧ True ∧ True ∧ True ∧ vp_in (yo) 40 ∧ True ∧ True ∧ True ∧ True ∧ True ∧ vp_in (yo) 40 ∧ True ∧ True ∧ True ∧ True ∧ True ∧ True ∧ True) (by with_unfolding_all rfl) ⟨trivial, trivial, trivial, trivial, trivial, g1, trivial, trivial, trivial, trivial, trivial, g2, trivial, trivial, trivial, trivial, trivial, trivial, trivial⟩ ?_
  cases h
  exact am_ev_vret 0 0 0 rfl rfl rfl
def fm_askPart (fl : Nat) (B : cB) (Y : cY) (p1 p2 : Int32) : Option (cB × cY) :=
  match Y with
  | (yo, ya, ys, yl, yt, yk, yc) =>
  (fm_copyPart fl B yt p1 p2).bind fun z1 =>
  match z1 with
  | (B_1) =>
  (fm_ask Y yt).bind fun z2 =>
  match z2 with
  | (Y_2) =>
  match Y_2 with
  | (yo_2, ya_2, ys_2, yl_2, yt_2, yk_2, yc_2) =>
  some (B_1, (yo_2, ya_2, ys_2, yl_2, (yt_2 + (1 : Int32)), yk_2, yc_2))
set_option maxHeartbeats 4000000 in
set_option maxRecDepth 100000 in
theorem ok_fm_askPart {fl : Nat} {N : cN} {C : cC} {E : cE} {F : cF} {P : cP} {Q : cQ} {T : cT} {G : cG} {U : cU} {H : cH} {B : cB} {O : cO} {J : cJ} {V : cV} {Y : cY} {Z : cZ} {O9 : cO9} {k n : Nat} {p1 p2 : Int32} {B' : cB} {Y' : cY} (h : fm_askPart fl B Y p1 p2 = some (B', Y')) (D : Nat) (hD : 4 ≤ D) : am_Call D 100 [.ref 19, .int p1, .int p2] (W9 N C E F P Q T G U H B O J V Y Z O9) k n (.inl none, W9 N C E F P Q T G U H B' O J V Y' Z O9, k, n) := by
  unfold fm_askPart at h
  obtain ⟨D, rfl⟩ : ∃ D', D = D' + 1 := ⟨D - 1, by omega⟩
  have hD : 3 ≤ D := by omega
  refine am_call_run (by decide) (by decide) rfl (Nat.le_of_ble_eq_true rfl) (by decide) (L := [(0, .ref 19), (1, .int p1), (2, .int p2)]) rfl ?_
  obtain ⟨yo, ya, ys, yl, yt, yk, yc⟩ := Y
  try dsimp only at h
  refine am_ev_st 5 (f' := (7, [(0, .ref 19), (1, .int p1), (2, .int p2)], [.int p2, .int p1, .int yt, .ref 19], (W9 N C E F P Q T G U H B O J V (yo, ya, ys, yl, yt, yk, yc) Z O9), k, n)) (g := True ∧ True ∧ True ∧ True ∧ True ∧ True) (by with_unfolding_all rfl) ⟨trivial, trivial, trivial, trivial, trivial, trivial⟩ ?_
  replace h := Option.bind_eq_some_iff.mp h
  obtain ⟨B_1, hc1, h⟩ := h
  try dsimp only at h
  refine am_ev_call (.invokevirtual 141) 83 6 849 [.ref 19, .int yt, .int p1, .int p2] [] rfl rfl rfl rfl (ok_fm_copyPart hc1 D (by omega)) rfl ?_
  refine am_ev_st 3 (f' := (15, [(0, .ref 19), (1, .int p1), (2, .int p2)], [.int yt, .ref 19], (W9 N C E F P Q T G U H B_1 O J V (yo, ya, ys, yl, yt, yk, yc) Z O9), k, n)) (g := True ∧ True ∧ True ∧ True) (by with_unfolding_all rfl) ⟨trivial, trivial, trivial, trivial⟩ ?_
  replace h := Option.bind_eq_some_iff.mp h
  obtain ⟨Y_2, hc2, h⟩ := h
  try dsimp only at h
  refine am_ev_call (.invokevirtual 156) 98 2 812 [.ref 19, .int yt] [] rfl rfl rfl rfl (ok_fm_ask hc2 D (by omega)) rfl ?_
  obtain ⟨yo_2, ya_2, ys_2, yl_2, yt_2, yk_2, yc_2⟩ := Y_2
  try dsimp only at h
  refine am_ev_st 6 (f' := (28, [(0, .ref 19), (1, .int p1), (2, .int p2)], [], (W9 N C E F P Q T G U H B_1 O J V (yo_2, ya_2, ys_2, yl_2, (yt_2 + (1 : Int32)), yk_2, yc_2) Z O9), k, n)) (g := True ∧ True ∧ True ∧ True ∧ True ∧ True ∧ True) (by with_unfolding_all rfl) ⟨trivial, trivial, trivial, trivial, trivial, trivial, trivial⟩ ?_
  cases h
  exact am_ev_vret 0 0 0 rfl rfl rfl
def fm_kindOf (p1 : Int32) : Option (Int32) :=
  some (p1 - p1 / (10 : Int32) * (10 : Int32))
set_option maxHeartbeats 4000000 in
set_option maxRecDepth 100000 in
theorem ok_fm_kindOf  {N : cN} {C : cC} {E : cE} {F : cF} {P : cP} {Q : cQ} {T : cT} {G : cG} {U : cU} {H : cH} {B : cB} {O : cO} {J : cJ} {V : cV} {Y : cY} {Z : cZ} {O9 : cO9} {k n : Nat} {p1 : Int32} {rv : Int32} (h : fm_kindOf p1 = some rv) (D : Nat) (hD : 1 ≤ D) : am_Call D 78 [.int p1] (W9 N C E F P Q T G U H B O J V Y Z O9) k n (.inl (some (.int rv)), W9 N C E F P Q T G U H B O J V Y Z O9, k, n) := by
  unfold fm_kindOf at h
  obtain ⟨D, rfl⟩ : ∃ D', D = D' + 1 := ⟨D - 1, by omega⟩
  have hD : 0 ≤ D := by omega
  refine am_call_run (by decide) (by decide) rfl (Nat.le_of_ble_eq_true rfl) (by decide) (L := [(0, .int p1)]) rfl ?_
  refine am_ev_st 3 (f' := (4, [(0, .int p1)], [.int (p1 - p1 / (10 : Int32) * (10 : Int32))], (W9 N C E F P Q T G U H B O J V Y Z O9), k, n)) (g := True ∧ True ∧ ¬ ((10 : Int32) = 0) ∧ True) (by with_unfolding_all rfl) ⟨trivial, trivial, by decide, trivial⟩ ?_
  cases h
  exact am_ev_ret 0 0 0 rfl .int rfl rfl rfl
def lp_fm_copy_2 (fl : Nat) : Nat → cB → Int32 → Int32 → Int32 → Option (cB)
  | 0, _, _, _, _ => none
  | w + 1, B, v1, v2, v3 =>
    match B with
    | (br, bl) =>
    if (v2 < 0 ∨ 96 ≤ (v2).toNatClampNeg) then none else
    if (bl (v2).toNatClampNeg) ≤ v3 then
    (if (v2 < 0 ∨ 96 ≤ (v2).toNatClampNeg) then none else
    if (v1 < 0 ∨ 96 ≤ (v1).toNatClampNeg) then none else
    some (br, (upd bl (v1).toNatClampNeg (bl (v2).toNatClampNeg))))
    else
    (fm_at B v2 v3).bind fun z5 =>
    match z5 with
    | (r5) =>
    if ((((60 : Int32) * v1) + v3) < 0 ∨ 5760 ≤ ((((60 : Int32) * v1) + v3)).toNatClampNeg) then none else
    lp_fm_copy_2 fl w ((upd br ((((60 : Int32) * v1) + v3)).toNatClampNeg r5), bl) v1 v2 (v3 + (1 : Int32))
def fm_copy (fl : Nat) (B : cB) (p1 p2 : Int32) : Option (cB) :=
  lp_fm_copy_2 fl fl B p1 p2 (0 : Int32)
set_option maxHeartbeats 4000000 in
set_option maxRecDepth 100000 in
theorem ok_lp_fm_copy_2 {fl : Nat} : ∀ {w : Nat} {N : cN} {C : cC} {E : cE} {F : cF} {P : cP} {Q : cQ} {T : cT} {G : cG} {U : cU} {H : cH} {B : cB} {O : cO} {J : cJ} {V : cV} {Y : cY} {Z : cZ} {O9 : cO9} {k n : Nat} {v1 : Int32} {v2 : Int32} {v3 : Int32} {B' : cB} (h : lp_fm_copy_2 fl w B v1 v2 v3 = some B') (D : Nat) (hD : 1 ≤ D), am_Ev D 84 0 (fun _ => 0) (2, [(0, .ref 19), (1, .int v1), (2, .int v2), (3, .int v3)], [], (W9 N C E F P Q T G U H B O J V Y Z O9), k, n) (.inl none, W9 N C E F P Q T G U H B' O J V Y Z O9, k, n) := by
  intro w
  induction w with
  | zero => intros; rename_i h _ _; cases h
  | succ w ih0 =>
    intro N C E F P Q T G U H B O J V Y Z O9 k n v1 v2 v3 B' h D hD
    have ih := fun {N} {C} {E} {F} {P} {Q} {T} {G} {U} {H} {B} {O} {J} {V} {Y} {Z} {O9} {k} {n} {v1} {v2} {v3} {B'} h => @ih0 N C E F P Q T G U H B O J V Y Z O9 k n v1 v2 v3 B' h D hD
    unfold lp_fm_copy_2 at h
    obtain ⟨br, bl⟩ := B
    try dsimp only at h
    by_cases g1 : (v2 < 0 ∨ 96 ≤ (v2).toNatClampNeg)
    · rw [if_pos g1] at h; cases h
    rw [if_neg g1] at h
    refine am_ev_st 6 (f' := am_br ((bl (v2).toNatClampNeg) ≤ v3) 35 9 [(0, .ref 19), (1, .int v1), (2, .int v2), (3, .int v3)] [] (W9 N C E F P Q T G U H (br, bl) O J V Y Z O9) k n) (g := True ∧ True ∧ True ∧ True ∧ vp_in (v2) 96 ∧ True ∧ True) (by with_unfolding_all rfl) ⟨trivial, trivial, trivial, trivial, g1, trivial, trivial⟩ ?_
    by_cases c2 : (bl (v2).toNatClampNeg) ≤ v3
    · rw [if_pos c2] at h
      refine am_ev_pos c2 ?_
      by_cases g3 : (v2 < 0 ∨ 96 ≤ (v2).toNatClampNeg)
      · rw [if_pos g3] at h; cases h
      rw [if_neg g3] at h
      by_cases g4 : (v1 < 0 ∨ 96 ≤ (v1).toNatClampNeg)
      · rw [if_pos g4] at h; cases h
      rw [if_neg g4] at h
      refine am_ev_st 8 (f' := (47, [(0, .ref 19), (1, .int v1), (2, .int v2), (3, .int v3)], [], (W9 N C E F P Q T G U H (br, (upd bl (v1).toNatClampNeg (bl (v2).toNatClampNeg))) O J V Y Z O9), k, n)) (g := True ∧ True ∧ True ∧ True ∧ True ∧ True ∧ vp_in (v2) 96 ∧ vp_in (v1) 96 ∧ True) (by with_unfolding_all rfl) ⟨trivial, trivial, trivial, trivial, trivial, trivial, g3, g4, trivial⟩ ?_
      cases h
      exact am_ev_vret 0 0 0 rfl rfl rfl
    · rw [if_neg c2] at h
      refine am_ev_neg c2 ?_
      refine am_ev_st 10 (f' := (25, [(0, .ref 19), (1, .int v1), (2, .int v2), (3, .int v3)], [.int v3, .int v2, .ref 19, .int (((60 : Int32) * v1) + v3), .ref 26], (W9 N C E F P Q T G U H (br, bl) O J V Y Z O9), k, n)) (g := True ∧ True ∧ True ∧ True ∧ True ∧ True ∧ True ∧ True ∧ True ∧ True ∧ True) (by with_unfolding_all rfl) ⟨trivial, trivial, trivial, trivial, trivial, trivial, trivial, trivial, trivial, trivial, trivial⟩ ?_
      replace h := Option.bind_eq_some_iff.mp h
      obtain ⟨r5, hc5, h⟩ := h
      try dsimp only at h
      refine am_ev_call (.invokevirtual 69) 81 4 820 [.ref 19, .int v2, .int v3] [.int (((60 : Int32) * v1) + v3), .ref 26] rfl rfl rfl rfl (ok_fm_at hc5 D (by omega)) rfl ?_
      by_cases g6 : ((((60 : Int32) * v1) + v3) < 0 ∨ 5760 ≤ ((((60 : Int32) * v1) + v3)).toNatClampNeg)
      · rw [if_pos g6] at h; cases h
      rw [if_neg g6] at h
      refine am_ev_st 3 (f' := (2, [(3, .int (v3 + (1 : Int32))), (0, .ref 19), (1, .int v1), (2, .int v2)], [], (W9 N C E F P Q T G U H ((upd br ((((60 : Int32) * v1) + v3)).toNatClampNeg r5), bl) O J V Y Z O9), k, n)) (g := vp_in ((((60 : Int32) * v1) + v3)) 5760 ∧ True ∧ True ∧ True) (by with_unfolding_all rfl) ⟨g6, trivial, trivial, trivial⟩ ?_
      refine am_ev_drop [1, 2, 3, 0] rfl rfl ?_
      exact ih h
set_option maxHeartbeats 4000000 in
set_option maxRecDepth 100000 in
theorem ok_fm_copy {fl : Nat} {N : cN} {C : cC} {E : cE} {F : cF} {P : cP} {Q : cQ} {T : cT} {G : cG} {U : cU} {H : cH} {B : cB} {O : cO} {J : cJ} {V : cV} {Y : cY} {Z : cZ} {O9 : cO9} {k n : Nat} {p1 p2 : Int32} {B' : cB} (h : fm_copy fl B p1 p2 = some B') (D : Nat) (hD : 2 ≤ D) : am_Call D 84 [.ref 19, .int p1, .int p2] (W9 N C E F P Q T G U H B O J V Y Z O9) k n (.inl none, W9 N C E F P Q T G U H B' O J V Y Z O9, k, n) := by
  unfold fm_copy at h
  obtain ⟨D, rfl⟩ : ∃ D', D = D' + 1 := ⟨D - 1, by omega⟩
  have hD : 1 ≤ D := by omega
  refine am_call_run (by decide) (by decide) rfl (Nat.le_of_ble_eq_true rfl) (by decide) (L := [(0, .ref 19), (1, .int p1), (2, .int p2)]) rfl ?_
  refine am_ev_st 2 (f' := (2, [(3, .int (0 : Int32)), (0, .ref 19), (1, .int p1), (2, .int p2)], [], (W9 N C E F P Q T G U H B O J V Y Z O9), k, n)) (g := True ∧ True ∧ True) (by with_unfolding_all rfl) ⟨trivial, trivial, trivial⟩ ?_
  refine am_ev_drop [1, 2, 3, 0] rfl rfl ?_
  exact ok_lp_fm_copy_2 h D hD
def fm_setAtom (B : cB) (p1 p2 : Int32) : Option (cB) :=
  match B with
  | (br, bl) =>
  if (((60 : Int32) * p1) < 0 ∨ 5760 ≤ (((60 : Int32) * p1)).toNatClampNeg) then none else
  if (p1 < 0 ∨ 96 ≤ (p1).toNatClampNeg) then none else
  some ((upd br (((60 : Int32) * p1)).toNatClampNeg p2), (upd bl (p1).toNatClampNeg (1 : Int32)))
set_option maxHeartbeats 4000000 in
set_option maxRecDepth 100000 in
theorem ok_fm_setAtom  {N : cN} {C : cC} {E : cE} {F : cF} {P : cP} {Q : cQ} {T : cT} {G : cG} {U : cU} {H : cH} {B : cB} {O : cO} {J : cJ} {V : cV} {Y : cY} {Z : cZ} {O9 : cO9} {k n : Nat} {p1 p2 : Int32} {B' : cB} (h : fm_setAtom B p1 p2 = some B') (D : Nat) (hD : 1 ≤ D) : am_Call D 85 [.ref 19, .int p1, .int p2] (W9 N C E F P Q T G U H B O J V Y Z O9) k n (.inl none, W9 N C E F P Q T G U H B' O J V Y Z O9, k, n) := by
  unfold fm_setAtom at h
  obtain ⟨D, rfl⟩ : ∃ D', D = D' + 1 := ⟨D - 1, by omega⟩
  have hD : 0 ≤ D := by omega
  refine am_call_run (by decide) (by decide) rfl (Nat.le_of_ble_eq_true rfl) (by decide) (L := [(0, .ref 19), (1, .int p1), (2, .int p2)]) rfl ?_
  obtain ⟨br, bl⟩ := B
  try dsimp only at h
  by_cases g1 : (((60 : Int32) * p1) < 0 ∨ 5760 ≤ (((60 : Int32) * p1)).toNatClampNeg)
  · rw [if_pos g1] at h; cases h
  rw [if_neg g1] at h
  by_cases g2 : (p1 < 0 ∨ 96 ≤ (p1).toNatClampNeg)
  · rw [if_pos g2] at h; cases h
  rw [if_neg g2] at h
  refine am_ev_st 12 (f' := (17, [(0, .ref 19), (1, .int p1), (2, .int p2)], [], (W9 N C E F P Q T G U H ((upd br (((60 : Int32) * p1)).toNatClampNeg p2), (upd bl (p1).toNatClampNeg (1 : Int32))) O J V Y Z O9), k, n)) (g := True ∧ True ∧ True ∧ True ∧ True ∧ True ∧ vp_in (((60 : Int32) * p1)) 5760 ∧ True ∧ True ∧ True ∧ True ∧ vp_in (p1) 96 ∧ True) (by with_unfolding_all rfl) ⟨trivial, trivial, trivial, trivial, trivial, trivial, g1, trivial, trivial, trivial, trivial, g2, trivial⟩ ?_
  cases h
  exact am_ev_vret 0 0 0 rfl rfl rfl
def fm_bindsIn (p1 : Int32) : Option (Bool) :=
  if (p1 - p1 / (10 : Int32) * (10 : Int32)) = (2 : Int32) then
  (some true)
  else
  if (p1 - p1 / (10 : Int32) * (10 : Int32)) ≠ (3 : Int32) then
  (some false)
  else
  some true
set_option maxHeartbeats 4000000 in
set_option maxRecDepth 100000 in
theorem ok_fm_bindsIn  {N : cN} {C : cC} {E : cE} {F : cF} {P : cP} {Q : cQ} {T : cT} {G : cG} {U : cU} {H : cH} {B : cB} {O : cO} {J : cJ} {V : cV} {Y : cY} {Z : cZ} {O9 : cO9} {k n : Nat} {p1 : Int32} {rv : Bool} (h : fm_bindsIn p1 = some rv) (D : Nat) (hD : 1 ≤ D) : am_Call D 80 [.int p1] (W9 N C E F P Q T G U H B O J V Y Z O9) k n (.inl (some (.int (am_bz rv))), W9 N C E F P Q T G U H B O J V Y Z O9, k, n) := by
  unfold fm_bindsIn at h
  obtain ⟨D, rfl⟩ : ∃ D', D = D' + 1 := ⟨D - 1, by omega⟩
  have hD : 0 ≤ D := by omega
  refine am_call_run (by decide) (by decide) rfl (Nat.le_of_ble_eq_true rfl) (by decide) (L := [(0, .int p1)]) rfl ?_
  refine am_ev_st 5 (f' := am_br ((p1 - p1 / (10 : Int32) * (10 : Int32)) = (2 : Int32)) 16 5 [(0, .int p1)] [] (W9 N C E F P Q T G U H B O J V Y Z O9) k n) (g := True ∧ True ∧ ¬ ((10 : Int32) = 0) ∧ True ∧ True ∧ True) (by with_unfolding_all rfl) ⟨trivial, trivial, by decide, trivial, trivial, trivial⟩ ?_
  by_cases c1 : (p1 - p1 / (10 : Int32) * (10 : Int32)) = (2 : Int32)
  · rw [if_pos c1] at h
    refine am_ev_pos c1 ?_
    refine am_ev_st 2 (f' := (21, [(0, .int p1)], [.int (1 : Int32)], (W9 N C E F P Q T G U H B O J V Y Z O9), k, n)) (g := True ∧ True ∧ True) (by with_unfolding_all rfl) ⟨trivial, trivial, trivial⟩ ?_
    cases h
    exact am_ev_ret 0 0 0 rfl .boolean rfl am_n1 rfl
  · rw [if_neg c1] at h
    refine am_ev_neg c1 ?_
    refine am_ev_st 5 (f' := am_br ((p1 - p1 / (10 : Int32) * (10 : Int32)) ≠ (3 : Int32)) 20 13 [(0, .int p1)] [] (W9 N C E F P Q T G U H B O J V Y Z O9) k n) (g := True ∧ True ∧ ¬ ((10 : Int32) = 0) ∧ True ∧ True ∧ True) (by with_unfolding_all rfl) ⟨trivial, trivial, by decide, trivial, trivial, trivial⟩ ?_
    by_cases c2 : (p1 - p1 / (10 : Int32) * (10 : Int32)) ≠ (3 : Int32)
    · rw [if_pos c2] at h
      refine am_ev_pos c2 ?_
      refine am_ev_st 1 (f' := (21, [(0, .int p1)], [.int (0 : Int32)], (W9 N C E F P Q T G U H B O J V Y Z O9), k, n)) (g := True ∧ True) (by with_unfolding_all rfl) ⟨trivial, trivial⟩ ?_
      cases h
      exact am_ev_ret 0 0 0 rfl .boolean rfl am_n0 rfl
    · rw [if_neg c2] at h
      refine am_ev_neg c2 ?_
      refine am_ev_st 2 (f' := (21, [(0, .int p1)], [.int (1 : Int32)], (W9 N C E F P Q T G U H B O J V Y Z O9), k, n)) (g := True ∧ True ∧ True) (by with_unfolding_all rfl) ⟨trivial, trivial, trivial⟩ ?_
      cases h
      exact am_ev_ret 0 0 0 rfl .boolean rfl am_n1 rfl
def lp_fm_raise_12 (fl : Nat) : Nat → cB → cJ → Int32 → Int32 → Int32 → Int32 → Option (cB × cJ)
  | 0, _, _, _, _, _, _ => none
  | w + 1, B, J, v1, v2, v3, v4 =>
    match B with
    | (br, bl) =>
    if (v1 < 0 ∨ 96 ≤ (v1).toNatClampNeg) then none else
    if (bl (v1).toNatClampNeg) ≤ v4 then
    (some (B, J))
    else
    match J with
    | (jp, ji) =>
    if ((v3 + (-1 : Int32)) < 0 ∨ 130 ≤ ((v3 + (-1 : Int32))).toNatClampNeg) then none else
    (fm_at B v1 v4).bind fun z5 =>
    match z5 with
    | (r5) =>
    (fm_kindOf r5).bind fun z6 =>
    match z6 with
    | (r6) =>
    if r6 ≠ 0 then
    ((fm_hasParts r5).bind fun z8 =>
    match z8 with
    | (r8) =>
    if (am_bz r8) ≠ 0 then
    ((fm_bindsIn r5).bind fun z10 =>
    match z10 with
    | (r10) =>
    if (am_bz r10) = 0 then
    (if ((v3 + (-1 : Int32)) < 0 ∨ 130 ≤ ((v3 + (-1 : Int32))).toNatClampNeg) then none else
    if (((v3 + (-1 : Int32)) + (1 : Int32)) < 0 ∨ 130 ≤ (((v3 + (-1 : Int32)) + (1 : Int32))).toNatClampNeg) then none else
    lp_fm_raise_12 fl w B ((upd (upd jp ((v3 + (-1 : Int32))).toNatClampNeg (jp ((v3 + (-1 : Int32))).toNatClampNeg)) (((v3 + (-1 : Int32)) + (1 : Int32))).toNatClampNeg (jp ((v3 + (-1 : Int32))).toNatClampNeg)), ji) v1 v2 ((v3 + (-1 : Int32)) + (2 : Int32)) (v4 + (1 : Int32)))
    else
    if ((v3 + (-1 : Int32)) < 0 ∨ 130 ≤ ((v3 + (-1 : Int32))).toNatClampNeg) then none else
    if (((v3 + (-1 : Int32)) + (1 : Int32)) < 0 ∨ 130 ≤ (((v3 + (-1 : Int32)) + (1 : Int32))).toNatClampNeg) then none else
    lp_fm_raise_12 fl w B ((upd (upd jp ((v3 + (-1 : Int32))).toNatClampNeg ((jp ((v3 + (-1 : Int32))).toNatClampNeg) + (1 : Int32))) (((v3 + (-1 : Int32)) + (1 : Int32))).toNatClampNeg (jp ((v3 + (-1 : Int32))).toNatClampNeg)), ji) v1 v2 ((v3 + (-1 : Int32)) + (2 : Int32)) (v4 + (1 : Int32)))
    else
    lp_fm_raise_12 fl w B J v1 v2 (v3 + (-1 : Int32)) (v4 + (1 : Int32)))
    else
    if (r5 / (10 : Int32)) < (jp ((v3 + (-1 : Int32))).toNatClampNeg) then
    ((fm_hasParts r5).bind fun z17 =>
    match z17 with
    | (r17) =>
    if (am_bz r17) ≠ 0 then
    ((fm_bindsIn r5).bind fun z19 =>
    match z19 with
    | (r19) =>
    if (am_bz r19) = 0 then
    (if ((v3 + (-1 : Int32)) < 0 ∨ 130 ≤ ((v3 + (-1 : Int32))).toNatClampNeg) then none else
    if (((v3 + (-1 : Int32)) + (1 : Int32)) < 0 ∨ 130 ≤ (((v3 + (-1 : Int32)) + (1 : Int32))).toNatClampNeg) then none else
    lp_fm_raise_12 fl w B ((upd (upd jp ((v3 + (-1 : Int32))).toNatClampNeg (jp ((v3 + (-1 : Int32))).toNatClampNeg)) (((v3 + (-1 : Int32)) + (1 : Int32))).toNatClampNeg (jp ((v3 + (-1 : Int32))).toNatClampNeg)), ji) v1 v2 ((v3 + (-1 : Int32)) + (2 : Int32)) (v4 + (1 : Int32)))
    else
    if ((v3 + (-1 : Int32)) < 0 ∨ 130 ≤ ((v3 + (-1 : Int32))).toNatClampNeg) then none else
    if (((v3 + (-1 : Int32)) + (1 : Int32)) < 0 ∨ 130 ≤ (((v3 + (-1 : Int32)) + (1 : Int32))).toNatClampNeg) then none else
    lp_fm_raise_12 fl w B ((upd (upd jp ((v3 + (-1 : Int32))).toNatClampNeg ((jp ((v3 + (-1 : Int32))).toNatClampNeg) + (1 : Int32))) (((v3 + (-1 : Int32)) + (1 : Int32))).toNatClampNeg (jp ((v3 + (-1 : Int32))).toNatClampNeg)), ji) v1 v2 ((v3 + (-1 : Int32)) + (2 : Int32)) (v4 + (1 : Int32)))
    else
    lp_fm_raise_12 fl w B J v1 v2 (v3 + (-1 : Int32)) (v4 + (1 : Int32)))
    else
    if ((((60 : Int32) * v1) + v4) < 0 ∨ 5760 ≤ ((((60 : Int32) * v1) + v4)).toNatClampNeg) then none else
    (fm_hasParts r5).bind fun z26 =>
    match z26 with
    | (r26) =>
    if (am_bz r26) ≠ 0 then
    ((fm_bindsIn r5).bind fun z28 =>
    match z28 with
    | (r28) =>
    if (am_bz r28) = 0 then
    (if ((v3 + (-1 : Int32)) < 0 ∨ 130 ≤ ((v3 + (-1 : Int32))).toNatClampNeg) then none else
    if (((v3 + (-1 : Int32)) + (1 : Int32)) < 0 ∨ 130 ≤ (((v3 + (-1 : Int32)) + (1 : Int32))).toNatClampNeg) then none else
    lp_fm_raise_12 fl w ((upd br ((((60 : Int32) * v1) + v4)).toNatClampNeg (r5 + ((10 : Int32) * v2))), bl) ((upd (upd jp ((v3 + (-1 : Int32))).toNatClampNeg (jp ((v3 + (-1 : Int32))).toNatClampNeg)) (((v3 + (-1 : Int32)) + (1 : Int32))).toNatClampNeg (jp ((v3 + (-1 : Int32))).toNatClampNeg)), ji) v1 v2 ((v3 + (-1 : Int32)) + (2 : Int32)) (v4 + (1 : Int32)))
    else
    if ((v3 + (-1 : Int32)) < 0 ∨ 130 ≤ ((v3 + (-1 : Int32))).toNatClampNeg) then none else
    if (((v3 + (-1 : Int32)) + (1 : Int32)) < 0 ∨ 130 ≤ (((v3 + (-1 : Int32)) + (1 : Int32))).toNatClampNeg) then none else
    lp_fm_raise_12 fl w ((upd br ((((60 : Int32) * v1) + v4)).toNatClampNeg (r5 + ((10 : Int32) * v2))), bl) ((upd (upd jp ((v3 + (-1 : Int32))).toNatClampNeg ((jp ((v3 + (-1 : Int32))).toNatClampNeg) + (1 : Int32))) (((v3 + (-1 : Int32)) + (1 : Int32))).toNatClampNeg (jp ((v3 + (-1 : Int32))).toNatClampNeg)), ji) v1 v2 ((v3 + (-1 : Int32)) + (2 : Int32)) (v4 + (1 : Int32)))
    else
    lp_fm_raise_12 fl w ((upd br ((((60 : Int32) * v1) + v4)).toNatClampNeg (r5 + ((10 : Int32) * v2))), bl) J v1 v2 (v3 + (-1 : Int32)) (v4 + (1 : Int32))
def fm_raise (fl : Nat) (B : cB) (J : cJ) (p1 p2 : Int32) : Option (cB × cJ) :=
  match J with
  | (jp, ji) =>
  if ((0 : Int32) < 0 ∨ 130 ≤ ((0 : Int32)).toNatClampNeg) then none else
  lp_fm_raise_12 fl fl B ((upd jp ((0 : Int32)).toNatClampNeg (0 : Int32)), ji) p1 p2 (1 : Int32) (0 : Int32)
set_option maxHeartbeats 4000000 in
set_option maxRecDepth 100000 in
theorem ok_lp_fm_raise_12 {fl : Nat} : ∀ {w : Nat} {N : cN} {C : cC} {E : cE} {F : cF} {P : cP} {Q : cQ} {T : cT} {G : cG} {U : cU} {H : cH} {B : cB} {O : cO} {J : cJ} {V : cV} {Y : cY} {Z : cZ} {O9 : cO9} {k n : Nat} {v1 : Int32} {v2 : Int32} {v3 : Int32} {v4 : Int32} {B' : cB} {J' : cJ} (h : lp_fm_raise_12 fl w B J v1 v2 v3 v4 = some (B', J')) (D : Nat) (hD : 1 ≤ D), am_Ev D 87 0 (fun _ => 0) (12, [(0, .ref 19), (1, .int v1), (2, .int v2), (3, .int v3), (4, .int v4)], [], (W9 N C E F P Q T G U H B O J V Y Z O9), k, n) (.inl none, W9 N C E F P Q T G U H B' O J' V Y Z O9, k, n) := by
  intro w
  induction w with
  | zero => intros; rename_i h _ _; cases h
  | succ w ih0 =>
    intro N C E F P Q T G U H B O J V Y Z O9 k n v1 v2 v3 v4 B' J' h D hD
    have ih := fun {N} {C} {E} {F} {P} {Q} {T} {G} {U} {H} {B} {O} {J} {V} {Y} {Z} {O9} {k} {n} {v1} {v2} {v3} {v4} {B'} {J'} h => @ih0 N C E F P Q T G U H B O J V Y Z O9 k n v1 v2 v3 v4 B' J' h D hD
    unfold lp_fm_raise_12 at h
    obtain ⟨br, bl⟩ := B
    try dsimp only at h
    by_cases g2 : (v1 < 0 ∨ 96 ≤ (v1).toNatClampNeg)
    · rw [if_pos g2] at h; cases h
    rw [if_neg g2] at h
    refine am_ev_st 6 (f' := am_br ((bl (v1).toNatClampNeg) ≤ v4) 133 20 [(0, .ref 19), (1, .int v1), (2, .int v2), (3, .int v3), (4, .int v4)] [] (W9 N C E F P Q T G U H (br, bl) O J V Y Z O9) k n) (g := True ∧ True ∧ True ∧ True ∧ vp_in (v1) 96 ∧ True ∧ True) (by with_unfolding_all rfl) ⟨trivial, trivial, trivial, trivial, g2, trivial, trivial⟩ ?_
    by_cases c3 : (bl (v1).toNatClampNeg) ≤ v4
    · rw [if_pos c3] at h
      refine am_ev_pos c3 ?_
      cases h
      exact am_ev_vret 0 0 0 rfl rfl rfl
    · rw [if_neg c3] at h
      refine am_ev_neg c3 ?_
      obtain ⟨jp, ji⟩ := J
      try dsimp only at h
      by_cases g4 : ((v3 + (-1 : Int32)) < 0 ∨ 130 ≤ ((v3 + (-1 : Int32))).toNatClampNeg)
      · rw [if_pos g4] at h; cases h
      rw [if_neg g4] at h
      refine am_ev_st 9 (f' := (38, [(5, .int (jp ((v3 + (-1 : Int32))).toNatClampNeg)), (3, .int (v3 + (-1 : Int32))), (0, .ref 19), (1, .int v1), (2, .int v2), (4, .int v4)], [.int v4, .int v1, .ref 19], (W9 N C E F P Q T G U H (br, bl) O (jp, ji) V Y Z O9), k, n)) (g := True ∧ True ∧ True ∧ True ∧ vp_in ((v3 + (-1 : Int32))) 130 ∧ True ∧ True ∧ True ∧ True ∧ True) (by with_unfolding_all rfl) ⟨trivial, trivial, trivial, trivial, g4, trivial, trivial, trivial, trivial, trivial⟩ ?_
      replace h := Option.bind_eq_some_iff.mp h
      obtain ⟨r5, hc5, h⟩ := h
      try dsimp only at h
      refine am_ev_call (.invokevirtual 69) 81 4 820 [.ref 19, .int v1, .int v4] [] rfl rfl rfl rfl (ok_fm_at hc5 D (by omega)) rfl ?_
      refine am_ev_st 2 (f' := (45, [(6, .int r5), (5, .int (jp ((v3 + (-1 : Int32))).toNatClampNeg)), (3, .int (v3 + (-1 : Int32))), (0, .ref 19), (1, .int v1), (2, .int v2), (4, .int v4)], [.int r5], (W9 N C E F P Q T G U H (br, bl) O (jp, ji) V Y Z O9), k, n)) (g := True ∧ True ∧ True) (by with_unfolding_all rfl) ⟨trivial, trivial, trivial⟩ ?_
      replace h := Option.bind_eq_some_iff.mp h
      obtain ⟨r6, hc6, h⟩ := h
      try dsimp only at h
      refine am_ev_call (.invokestatic 80) 78 2 824 [.int r5] [] rfl rfl rfl rfl (ok_fm_kindOf hc6 D (by omega)) rfl ?_
      refine am_ev_st 1 (f' := am_br (r6 ≠ 0) 80 48 [(6, .int r5), (5, .int (jp ((v3 + (-1 : Int32))).toNatClampNeg)), (3, .int (v3 + (-1 : Int32))), (0, .ref 19), (1, .int v1), (2, .int v2), (4, .int v4)] [] (W9 N C E F P Q T G U H (br, bl) O (jp, ji) V Y Z O9) k n) (g := True ∧ True) (by with_unfolding_all rfl) ⟨trivial, trivial⟩ ?_
      by_cases c7 : r6 ≠ 0
      · rw [if_pos c7] at h
        refine am_ev_pos c7 ?_
        refine am_ev_st 1 (f' := (82, [(6, .int r5), (5, .int (jp ((v3 + (-1 : Int32))).toNatClampNeg)), (3, .int (v3 + (-1 : Int32))), (0, .ref 19), (1, .int v1), (2, .int v2), (4, .int v4)], [.int r5], (W9 N C E F P Q T G U H (br, bl) O (jp, ji) V Y Z O9), k, n)) (g := True ∧ True) (by with_unfolding_all rfl) ⟨trivial, trivial⟩ ?_
        replace h := Option.bind_eq_some_iff.mp h
        obtain ⟨r8, hc8, h⟩ := h
        try dsimp only at h
        refine am_ev_call (.invokestatic 73) 79 2 835 [.int r5] [] rfl rfl rfl rfl (ok_fm_hasParts hc8 D (by omega)) rfl ?_
        refine am_ev_st 1 (f' := am_br ((am_bz r8) ≠ 0) 91 85 [(6, .int r5), (5, .int (jp ((v3 + (-1 : Int32))).toNatClampNeg)), (3, .int (v3 + (-1 : Int32))), (0, .ref 19), (1, .int v1), (2, .int v2), (4, .int v4)] [] (W9 N C E F P Q T G U H (br, bl) O (jp, ji) V Y Z O9) k n) (g := True ∧ True) (by with_unfolding_all rfl) ⟨trivial, trivial⟩ ?_
        by_cases c9 : (am_bz r8) ≠ 0
        · rw [if_pos c9] at h
          refine am_ev_pos c9 ?_
          refine am_ev_st 4 (f' := (98, [(6, .int r5), (5, .int (jp ((v3 + (-1 : Int32))).toNatClampNeg)), (3, .int (v3 + (-1 : Int32))), (0, .ref 19), (1, .int v1), (2, .int v2), (4, .int v4)], [.int r5, .int (v3 + (-1 : Int32)), .ref 29], (W9 N C E F P Q T G U H (br, bl) O (jp, ji) V Y Z O9), k, n)) (g := True ∧ True ∧ True ∧ True ∧ True) (by with_unfolding_all rfl) ⟨trivial, trivial, trivial, trivial, trivial⟩ ?_
          replace h := Option.bind_eq_some_iff.mp h
          obtain ⟨r10, hc10, h⟩ := h
          try dsimp only at h
          refine am_ev_call (.invokestatic 84) 80 2 838 [.int r5] [.int (v3 + (-1 : Int32)), .ref 29] rfl rfl rfl rfl (ok_fm_bindsIn hc10 D (by omega)) rfl ?_
          refine am_ev_st 1 (f' := am_br ((am_bz r10) = 0) 111 101 [(6, .int r5), (5, .int (jp ((v3 + (-1 : Int32))).toNatClampNeg)), (3, .int (v3 + (-1 : Int32))), (0, .ref 19), (1, .int v1), (2, .int v2), (4, .int v4)] [.int (v3 + (-1 : Int32)), .ref 29] (W9 N C E F P Q T G U H (br, bl) O (jp, ji) V Y Z O9) k n) (g := True ∧ True) (by with_unfolding_all rfl) ⟨trivial, trivial⟩ ?_
          by_cases c11 : (am_bz r10) = 0
          · rw [if_pos c11] at h
            refine am_ev_pos c11 ?_
            by_cases g12 : ((v3 + (-1 : Int32)) < 0 ∨ 130 ≤ ((v3 + (-1 : Int32))).toNatClampNeg)
            · rw [if_pos g12] at h; cases h
            rw [if_neg g12] at h
            by_cases g13 : (((v3 + (-1 : Int32)) + (1 : Int32)) < 0 ∨ 130 ≤ (((v3 + (-1 : Int32)) + (1 : Int32))).toNatClampNeg)
            · rw [if_pos g13] at h; cases h
            rw [if_neg g13] at h
            refine am_ev_st 12 (f' := (12, [(4, .int (v4 + (1 : Int32))), (3, .int ((v3 + (-1 : Int32)) + (2 : Int32))), (6, .int r5), (5, .int (jp ((v3 + (-1 : Int32))).toNatClampNeg)), (0, .ref 19), (1, .int v1), (2, .int v2)], [], (W9 N C E F P Q T G U H (br, bl) O ((upd (upd jp ((v3 + (-1 : Int32))).toNatClampNeg (jp ((v3 + (-1 : Int32))).toNatClampNeg)) (((v3 + (-1 : Int32)) + (1 : Int32))).toNatClampNeg (jp ((v3 + (-1 : Int32))).toNatClampNeg)), ji) V Y Z O9), k, n)) (g := True ∧ vp_in ((v3 + (-1 : Int32))) 130 ∧ True ∧ True ∧ True ∧ True ∧ True ∧ True ∧ vp_in (((v3 + (-1 : Int32)) + (1 : Int32))) 130 ∧ True ∧ True ∧ True ∧ True) (by with_unfolding_all rfl) ⟨trivial, g12, trivial, trivial, trivial, trivial, trivial, trivial, g13, trivial, trivial, trivial, trivial⟩ ?_
            refine am_ev_drop [4, 5, 6, 1, 0] rfl rfl ?_
            exact ih h
          · rw [if_neg c11] at h
            refine am_ev_neg c11 ?_
            by_cases g14 : ((v3 + (-1 : Int32)) < 0 ∨ 130 ≤ ((v3 + (-1 : Int32))).toNatClampNeg)
            · rw [if_pos g14] at h; cases h
            rw [if_neg g14] at h
            by_cases g15 : (((v3 + (-1 : Int32)) + (1 : Int32)) < 0 ∨ 130 ≤ (((v3 + (-1 : Int32)) + (1 : Int32))).toNatClampNeg)
            · rw [if_pos g15] at h; cases h
            rw [if_neg g15] at h
            refine am_ev_st 15 (f' := (12, [(4, .int (v4 + (1 : Int32))), (3, .int ((v3 + (-1 : Int32)) + (2 : Int32))), (6, .int r5), (5, .int (jp ((v3 + (-1 : Int32))).toNatClampNeg)), (0, .ref 19), (1, .int v1), (2, .int v2)], [], (W9 N C E F P Q T G U H (br, bl) O ((upd (upd jp ((v3 + (-1 : Int32))).toNatClampNeg ((jp ((v3 + (-1 : Int32))).toNatClampNeg) + (1 : Int32))) (((v3 + (-1 : Int32)) + (1 : Int32))).toNatClampNeg (jp ((v3 + (-1 : Int32))).toNatClampNeg)), ji) V Y Z O9), k, n)) (g := True ∧ True ∧ True ∧ True ∧ vp_in ((v3 + (-1 : Int32))) 130 ∧ True ∧ True ∧ True ∧ True ∧ True ∧ True ∧ vp_in (((v3 + (-1 : Int32)) + (1 : Int32))) 130 ∧ True ∧ True ∧ True ∧ True) (by with_unfolding_all rfl) ⟨trivial, trivial, trivial, trivial, g14, trivial, trivial, trivial, trivial, trivial, trivial, g15, trivial, trivial, trivial, trivial⟩ ?_
            refine am_ev_drop [4, 5, 6, 1, 0] rfl rfl ?_
            exact ih h
        · rw [if_neg c9] at h
          refine am_ev_neg c9 ?_
          refine am_ev_st 3 (f' := (12, [(4, .int (v4 + (1 : Int32))), (6, .int r5), (5, .int (jp ((v3 + (-1 : Int32))).toNatClampNeg)), (3, .int (v3 + (-1 : Int32))), (0, .ref 19), (1, .int v1), (2, .int v2)], [], (W9 N C E F P Q T G U H (br, bl) O (jp, ji) V Y Z O9), k, n)) (g := True ∧ True ∧ True ∧ True) (by with_unfolding_all rfl) ⟨trivial, trivial, trivial, trivial⟩ ?_
          refine am_ev_drop [4, 5, 6, 3, 0] rfl rfl ?_
          exact ih h
      · rw [if_neg c7] at h
        refine am_ev_neg c7 ?_
        refine am_ev_st 5 (f' := am_br ((r5 / (10 : Int32)) < (jp ((v3 + (-1 : Int32))).toNatClampNeg)) 80 58 [(6, .int r5), (5, .int (jp ((v3 + (-1 : Int32))).toNatClampNeg)), (3, .int (v3 + (-1 : Int32))), (0, .ref 19), (1, .int v1), (2, .int v2), (4, .int v4)] [] (W9 N C E F P Q T G U H (br, bl) O (jp, ji) V Y Z O9) k n) (g := True ∧ True ∧ ¬ ((10 : Int32) = 0) ∧ True ∧ True ∧ True) (by with_unfolding_all rfl) ⟨trivial, trivial, by decide, trivial, trivial, trivial⟩ ?_
        by_cases c16 : (r5 / (10 : Int32)) < (jp ((v3 + (-1 : Int32))).toNatClampNeg)
        · rw [if_pos c16] at h
          refine am_ev_pos c16 ?_
          refine am_ev_st 1 (f' := (82, [(6, .int r5), (5, .int (jp ((v3 + (-1 : Int32))).toNatClampNeg)), (3, .int (v3 + (-1 : Int32))), (0, .ref 19), (1, .int v1), (2, .int v2), (4, .int v4)], [.int r5], (W9 N C E F P Q T G U H (br, bl) O (jp, ji) V Y Z O9), k, n)) (g := True ∧ True) (by with_unfolding_all rfl) ⟨trivial, trivial⟩ ?_
          replace h := Option.bind_eq_some_iff.mp h
          obtain ⟨r17, hc17, h⟩ := h
          try dsimp only at h
          refine am_ev_call (.invokestatic 73) 79 2 835 [.int r5] [] rfl rfl rfl rfl (ok_fm_hasParts hc17 D (by omega)) rfl ?_
          refine am_ev_st 1 (f' := am_br ((am_bz r17) ≠ 0) 91 85 [(6, .int r5), (5, .int (jp ((v3 + (-1 : Int32))).toNatClampNeg)), (3, .int (v3 + (-1 : Int32))), (0, .ref 19), (1, .int v1), (2, .int v2), (4, .int v4)] [] (W9 N C E F P Q T G U H (br, bl) O (jp, ji) V Y Z O9) k n) (g := True ∧ True) (by with_unfolding_all rfl) ⟨trivial, trivial⟩ ?_
          by_cases c18 : (am_bz r17) ≠ 0
          · rw [if_pos c18] at h
            refine am_ev_pos c18 ?_
            refine am_ev_st 4 (f' := (98, [(6, .int r5), (5, .int (jp ((v3 + (-1 : Int32))).toNatClampNeg)), (3, .int (v3 + (-1 : Int32))), (0, .ref 19), (1, .int v1), (2, .int v2), (4, .int v4)], [.int r5, .int (v3 + (-1 : Int32)), .ref 29], (W9 N C E F P Q T G U H (br, bl) O (jp, ji) V Y Z O9), k, n)) (g := True ∧ True ∧ True ∧ True ∧ True) (by with_unfolding_all rfl) ⟨trivial, trivial, trivial, trivial, trivial⟩ ?_
            replace h := Option.bind_eq_some_iff.mp h
            obtain ⟨r19, hc19, h⟩ := h
            try dsimp only at h
            refine am_ev_call (.invokestatic 84) 80 2 838 [.int r5] [.int (v3 + (-1 : Int32)), .ref 29] rfl rfl rfl rfl (ok_fm_bindsIn hc19 D (by omega)) rfl ?_
            refine am_ev_st 1 (f' := am_br ((am_bz r19) = 0) 111 101 [(6, .int r5), (5, .int (jp ((v3 + (-1 : Int32))).toNatClampNeg)), (3, .int (v3 + (-1 : Int32))), (0, .ref 19), (1, .int v1), (2, .int v2), (4, .int v4)] [.int (v3 + (-1 : Int32)), .ref 29] (W9 N C E F P Q T G U H (br, bl) O (jp, ji) V Y Z O9) k n) (g := True ∧ True) (by with_unfolding_all rfl) ⟨trivial, trivial⟩ ?_
            by_cases c20 : (am_bz r19) = 0
            · rw [if_pos c20] at h
              refine am_ev_pos c20 ?_
              by_cases g21 : ((v3 + (-1 : Int32)) < 0 ∨ 130 ≤ ((v3 + (-1 : Int32))).toNatClampNeg)
              · rw [if_pos g21] at h; cases h
              rw [if_neg g21] at h
              by_cases g22 : (((v3 + (-1 : Int32)) + (1 : Int32)) < 0 ∨ 130 ≤ (((v3 + (-1 : Int32)) + (1 : Int32))).toNatClampNeg)
              · rw [if_pos g22] at h; cases h
              rw [if_neg g22] at h
              refine am_ev_st 12 (f' := (12, [(4, .int (v4 + (1 : Int32))), (3, .int ((v3 + (-1 : Int32)) + (2 : Int32))), (6, .int r5), (5, .int (jp ((v3 + (-1 : Int32))).toNatClampNeg)), (0, .ref 19), (1, .int v1), (2, .int v2)], [], (W9 N C E F P Q T G U H (br, bl) O ((upd (upd jp ((v3 + (-1 : Int32))).toNatClampNeg (jp ((v3 + (-1 : Int32))).toNatClampNeg)) (((v3 + (-1 : Int32)) + (1 : Int32))).toNatClampNeg (jp ((v3 + (-1 : Int32))).toNatClampNeg)), ji) V Y Z O9), k, n)) (g := True ∧ vp_in ((v3 + (-1 : Int32))) 130 ∧ True ∧ True ∧ True ∧ True ∧ True ∧ True ∧ vp_in (((v3 + (-1 : Int32)) + (1 : Int32))) 130 ∧ True ∧ True ∧ True ∧ True) (by with_unfolding_all rfl) ⟨trivial, g21, trivial, trivial, trivial, trivial, trivial, trivial, g22, trivial, trivial, trivial, trivial⟩ ?_
              refine am_ev_drop [4, 5, 6, 1, 0] rfl rfl ?_
              exact ih h
            · rw [if_neg c20] at h
              refine am_ev_neg c20 ?_
              by_cases g23 : ((v3 + (-1 : Int32)) < 0 ∨ 130 ≤ ((v3 + (-1 : Int32))).toNatClampNeg)
              · rw [if_pos g23] at h; cases h
              rw [if_neg g23] at h
              by_cases g24 : (((v3 + (-1 : Int32)) + (1 : Int32)) < 0 ∨ 130 ≤ (((v3 + (-1 : Int32)) + (1 : Int32))).toNatClampNeg)
              · rw [if_pos g24] at h; cases h
              rw [if_neg g24] at h
              refine am_ev_st 15 (f' := (12, [(4, .int (v4 + (1 : Int32))), (3, .int ((v3 + (-1 : Int32)) + (2 : Int32))), (6, .int r5), (5, .int (jp ((v3 + (-1 : Int32))).toNatClampNeg)), (0, .ref 19), (1, .int v1), (2, .int v2)], [], (W9 N C E F P Q T G U H (br, bl) O ((upd (upd jp ((v3 + (-1 : Int32))).toNatClampNeg ((jp ((v3 + (-1 : Int32))).toNatClampNeg) + (1 : Int32))) (((v3 + (-1 : Int32)) + (1 : Int32))).toNatClampNeg (jp ((v3 + (-1 : Int32))).toNatClampNeg)), ji) V Y Z O9), k, n)) (g := True ∧ True ∧ True ∧ True ∧ vp_in ((v3 + (-1 : Int32))) 130 ∧ True ∧ True ∧ True ∧ True ∧ True ∧ True ∧ vp_in (((v3 + (-1 : Int32)) + (1 : Int32))) 130 ∧ True ∧ True ∧ True ∧ True) (by with_unfolding_all rfl) ⟨trivial, trivial, trivial, trivial, g23, trivial, trivial, trivial, trivial, trivial, trivial, g24, trivial, trivial, trivial, trivial⟩ ?_
              refine am_ev_drop [4, 5, 6, 1, 0] rfl rfl ?_
              exact ih h
          · rw [if_neg c18] at h
            refine am_ev_neg c18 ?_
            refine am_ev_st 3 (f' := (12, [(4, .int (v4 + (1 : Int32))), (6, .int r5), (5, .int (jp ((v3 + (-1 : Int32))).toNatClampNeg)), (3, .int (v3 + (-1 : Int32))), (0, .ref 19), (1, .int v1), (2, .int v2)], [], (W9 N C E F P Q T G U H (br, bl) O (jp, ji) V Y Z O9), k, n)) (g := True ∧ True ∧ True ∧ True) (by with_unfolding_all rfl) ⟨trivial, trivial, trivial, trivial⟩ ?_
            refine am_ev_drop [4, 5, 6, 3, 0] rfl rfl ?_
            exact ih h
        · rw [if_neg c16] at h
          refine am_ev_neg c16 ?_
          by_cases g25 : ((((60 : Int32) * v1) + v4) < 0 ∨ 5760 ≤ ((((60 : Int32) * v1) + v4)).toNatClampNeg)
          · rw [if_pos g25] at h; cases h
          rw [if_neg g25] at h
          refine am_ev_st 14 (f' := (82, [(6, .int r5), (5, .int (jp ((v3 + (-1 : Int32))).toNatClampNeg)), (3, .int (v3 + (-1 : Int32))), (0, .ref 19), (1, .int v1), (2, .int v2), (4, .int v4)], [.int r5], (W9 N C E F P Q T G U H ((upd br ((((60 : Int32) * v1) + v4)).toNatClampNeg (r5 + ((10 : Int32) * v2))), bl) O (jp, ji) V Y Z O9), k, n)) (g := True ∧ True ∧ True ∧ True ∧ True ∧ True ∧ True ∧ True ∧ True ∧ True ∧ True ∧ True ∧ vp_in ((((60 : Int32) * v1) + v4)) 5760 ∧ True ∧ True) (by with_unfolding_all rfl) ⟨trivial, trivial, trivial, trivial, trivial, trivial, trivial, trivial, trivial, trivial, trivial, trivial, g25, trivial, trivial⟩ ?_
          replace h := Option.bind_eq_some_iff.mp h
          obtain ⟨r26, hc26, h⟩ := h
          try dsimp only at h
          refine am_ev_call (.invokestatic 73) 79 2 835 [.int r5] [] rfl rfl rfl rfl (ok_fm_hasParts hc26 D (by omega)) rfl ?_
          refine am_ev_st 1 (f' := am_br ((am_bz r26) ≠ 0) 91 85 [(6, .int r5), (5, .int (jp ((v3 + (-1 : Int32))).toNatClampNeg)), (3, .int (v3 + (-1 : Int32))), (0, .ref 19), (1, .int v1), (2, .int v2), (4, .int v4)] [] (W9 N C E F P Q T G U H ((upd br ((((60 : Int32) * v1) + v4)).toNatClampNeg (r5 + ((10 : Int32) * v2))), bl) O (jp, ji) V Y Z O9) k n) (g := True ∧ True) (by with_unfolding_all rfl) ⟨trivial, trivial⟩ ?_
          by_cases c27 : (am_bz r26) ≠ 0
          · rw [if_pos c27] at h
            refine am_ev_pos c27 ?_
            refine am_ev_st 4 (f' := (98, [(6, .int r5), (5, .int (jp ((v3 + (-1 : Int32))).toNatClampNeg)), (3, .int (v3 + (-1 : Int32))), (0, .ref 19), (1, .int v1), (2, .int v2), (4, .int v4)], [.int r5, .int (v3 + (-1 : Int32)), .ref 29], (W9 N C E F P Q T G U H ((upd br ((((60 : Int32) * v1) + v4)).toNatClampNeg (r5 + ((10 : Int32) * v2))), bl) O (jp, ji) V Y Z O9), k, n)) (g := True ∧ True ∧ True ∧ True ∧ True) (by with_unfolding_all rfl) ⟨trivial, trivial, trivial, trivial, trivial⟩ ?_
            replace h := Option.bind_eq_some_iff.mp h
            obtain ⟨r28, hc28, h⟩ := h
            try dsimp only at h
            refine am_ev_call (.invokestatic 84) 80 2 838 [.int r5] [.int (v3 + (-1 : Int32)), .ref 29] rfl rfl rfl rfl (ok_fm_bindsIn hc28 D (by omega)) rfl ?_
            refine am_ev_st 1 (f' := am_br ((am_bz r28) = 0) 111 101 [(6, .int r5), (5, .int (jp ((v3 + (-1 : Int32))).toNatClampNeg)), (3, .int (v3 + (-1 : Int32))), (0, .ref 19), (1, .int v1), (2, .int v2), (4, .int v4)] [.int (v3 + (-1 : Int32)), .ref 29] (W9 N C E F P Q T G U H ((upd br ((((60 : Int32) * v1) + v4)).toNatClampNeg (r5 + ((10 : Int32) * v2))), bl) O (jp, ji) V Y Z O9) k n) (g := True ∧ True) (by with_unfolding_all rfl) ⟨trivial, trivial⟩ ?_
            by_cases c29 : (am_bz r28) = 0
            · rw [if_pos c29] at h
              refine am_ev_pos c29 ?_
              by_cases g30 : ((v3 + (-1 : Int32)) < 0 ∨ 130 ≤ ((v3 + (-1 : Int32))).toNatClampNeg)
              · rw [if_pos g30] at h; cases h
              rw [if_neg g30] at h
              by_cases g31 : (((v3 + (-1 : Int32)) + (1 : Int32)) < 0 ∨ 130 ≤ (((v3 + (-1 : Int32)) + (1 : Int32))).toNatClampNeg)
              · rw [if_pos g31] at h; cases h
              rw [if_neg g31] at h
              refine am_ev_st 12 (f' := (12, [(4, .int (v4 + (1 : Int32))), (3, .int ((v3 + (-1 : Int32)) + (2 : Int32))), (6, .int r5), (5, .int (jp ((v3 + (-1 : Int32))).toNatClampNeg)), (0, .ref 19), (1, .int v1), (2, .int v2)], [], (W9 N C E F P Q T G U H ((upd br ((((60 : Int32) * v1) + v4)).toNatClampNeg (r5 + ((10 : Int32) * v2))), bl) O ((upd (upd jp ((v3 + (-1 : Int32))).toNatClampNeg (jp ((v3 + (-1 : Int32))).toNatClampNeg)) (((v3 + (-1 : Int32)) + (1 : Int32))).toNatClampNeg (jp ((v3 + (-1 : Int32))).toNatClampNeg)), ji) V Y Z O9), k, n)) (g := True ∧ vp_in ((v3 + (-1 : Int32))) 130 ∧ True ∧ True ∧ True ∧ True ∧ True ∧ True ∧ vp_in (((v3 + (-1 : Int32)) + (1 : Int32))) 130 ∧ True ∧ True ∧ True ∧ True) (by with_unfolding_all rfl) ⟨trivial, g30, trivial, trivial, trivial, trivial, trivial, trivial, g31, trivial, trivial, trivial, trivial⟩ ?_
              refine am_ev_drop [4, 5, 6, 1, 0] rfl rfl ?_
              exact ih h
            · rw [if_neg c29] at h
              refine am_ev_neg c29 ?_
              by_cases g32 : ((v3 + (-1 : Int32)) < 0 ∨ 130 ≤ ((v3 + (-1 : Int32))).toNatClampNeg)
              · rw [if_pos g32] at h; cases h
              rw [if_neg g32] at h
              by_cases g33 : (((v3 + (-1 : Int32)) + (1 : Int32)) < 0 ∨ 130 ≤ (((v3 + (-1 : Int32)) + (1 : Int32))).toNatClampNeg)
              · rw [if_pos g33] at h; cases h
              rw [if_neg g33] at h
              refine am_ev_st 15 (f' := (12, [(4, .int (v4 + (1 : Int32))), (3, .int ((v3 + (-1 : Int32)) + (2 : Int32))), (6, .int r5), (5, .int (jp ((v3 + (-1 : Int32))).toNatClampNeg)), (0, .ref 19), (1, .int v1), (2, .int v2)], [], (W9 N C E F P Q T G U H ((upd br ((((60 : Int32) * v1) + v4)).toNatClampNeg (r5 + ((10 : Int32) * v2))), bl) O ((upd (upd jp ((v3 + (-1 : Int32))).toNatClampNeg ((jp ((v3 + (-1 : Int32))).toNatClampNeg) + (1 : Int32))) (((v3 + (-1 : Int32)) + (1 : Int32))).toNatClampNeg (jp ((v3 + (-1 : Int32))).toNatClampNeg)), ji) V Y Z O9), k, n)) (g := True ∧ True ∧ True ∧ True ∧ vp_in ((v3 + (-1 : Int32))) 130 ∧ True ∧ True ∧ True ∧ True ∧ True ∧ True ∧ vp_in (((v3 + (-1 : Int32)) + (1 : Int32))) 130 ∧ True ∧ True ∧ True ∧ True) (by with_unfolding_all rfl) ⟨trivial, trivial, trivial, trivial, g32, trivial, trivial, trivial, trivial, trivial, trivial, g33, trivial, trivial, trivial, trivial⟩ ?_
              refine am_ev_drop [4, 5, 6, 1, 0] rfl rfl ?_
              exact ih h
          · rw [if_neg c27] at h
            refine am_ev_neg c27 ?_
            refine am_ev_st 3 (f' := (12, [(4, .int (v4 + (1 : Int32))), (6, .int r5), (5, .int (jp ((v3 + (-1 : Int32))).toNatClampNeg)), (3, .int (v3 + (-1 : Int32))), (0, .ref 19), (1, .int v1), (2, .int v2)], [], (W9 N C E F P Q T G U H ((upd br ((((60 : Int32) * v1) + v4)).toNatClampNeg (r5 + ((10 : Int32) * v2))), bl) O (jp, ji) V Y Z O9), k, n)) (g := True ∧ True ∧ True ∧ True) (by with_unfolding_all rfl) ⟨trivial, trivial, trivial, trivial⟩ ?_
            refine am_ev_drop [4, 5, 6, 3, 0] rfl rfl ?_
            exact ih h
set_option maxHeartbeats 4000000 in
set_option maxRecDepth 100000 in
theorem ok_fm_raise {fl : Nat} {N : cN} {C : cC} {E : cE} {F : cF} {P : cP} {Q : cQ} {T : cT} {G : cG} {U : cU} {H : cH} {B : cB} {O : cO} {J : cJ} {V : cV} {Y : cY} {Z : cZ} {O9 : cO9} {k n : Nat} {p1 p2 : Int32} {B' : cB} {J' : cJ} (h : fm_raise fl B J p1 p2 = some (B', J')) (D : Nat) (hD : 2 ≤ D) : am_Call D 87 [.ref 19, .int p1, .int p2] (W9 N C E F P Q T G U H B O J V Y Z O9) k n (.inl none, W9 N C E F P Q T G U H B' O J' V Y Z O9, k, n) := by
  unfold fm_raise at h
  obtain ⟨D, rfl⟩ : ∃ D', D = D' + 1 := ⟨D - 1, by omega⟩
  have hD : 1 ≤ D := by omega
  refine am_call_run (by decide) (by decide) rfl (Nat.le_of_ble_eq_true rfl) (by decide) (L := [(0, .ref 19), (1, .int p1), (2, .int p2)]) rfl ?_
  obtain ⟨jp, ji⟩ := J
  try dsimp only at h
  by_cases g1 : ((0 : Int32) < 0 ∨ 130 ≤ ((0 : Int32)).toNatClampNeg)
  · rw [if_pos g1] at h; cases h
  rw [if_neg g1] at h
  refine am_ev_st 9 (f' := (12, [(4, .int (0 : Int32)), (3, .int (1 : Int32)), (0, .ref 19), (1, .int p1), (2, .int p2)], [], (W9 N C E F P Q T G U H B O ((upd jp ((0 : Int32)).toNatClampNeg (0 : Int32)), ji) V Y Z O9), k, n)) (g := True ∧ True ∧ True ∧ True ∧ True ∧ True ∧ vp_in ((0 : Int32)) 130 ∧ True ∧ True ∧ True) (by with_unfolding_all rfl) ⟨trivial, trivial, trivial, trivial, trivial, trivial, g1, trivial, trivial, trivial⟩ ?_
  refine am_ev_drop [2, 3, 4, 1, 0] rfl rfl ?_
  exact ok_lp_fm_raise_12 h D hD
def fm_start (fl : Nat) (B : cB) (J : cJ) (V : cV) (Y : cY) (p1 : Int32) : Option (cB × cJ × cV × cY) :=
  match Y with
  | (yo, ya, ys, yl, yt, yk, yc) =>
  if (p1 < 0 ∨ 40 ≤ (p1).toNatClampNeg) then none else
  (fm_at B (ya (p1).toNatClampNeg) (0 : Int32)).bind fun z2 =>
  match z2 with
  | (r2) =>
  (fm_kindOf r2).bind fun z3 =>
  match z3 with
  | (r3) =>
  if r3 = (0 : Int32) then
  (if (r2 / (10 : Int32)) < yk then
  (if (((yk - (1 : Int32)) - (r2 / (10 : Int32))) < 0 ∨ 40 ≤ (((yk - (1 : Int32)) - (r2 / (10 : Int32)))).toNatClampNeg) then none else
  (fm_copy fl B (ya (p1).toNatClampNeg) (yc (((yk - (1 : Int32)) - (r2 / (10 : Int32)))).toNatClampNeg)).bind fun z7 =>
  match z7 with
  | (B_7) =>
  (fm_raise fl B_7 J (ya (p1).toNatClampNeg) ((r2 / (10 : Int32)) + (1 : Int32))).bind fun z8 =>
  match z8 with
  | (B_8, J_8) =>
  some (B_8, J_8, V, ((yo - (1 : Int32)), ya, ys, yl, yt, yk, yc)))
  else
  match V with
  | (vf, vu, vx) =>
  some (B, J, (vf, vu, (2 : Int32)), ((yo - (1 : Int32)), ya, ys, yl, yt, yk, yc)))
  else
  if r3 = (1 : Int32) then
  ((fm_setAtom B (ya (p1).toNatClampNeg) (r2 + (10 : Int32))).bind fun z10 =>
  match z10 with
  | (B_10) =>
  some (B_10, J, V, ((yo - (1 : Int32)), ya, ys, yl, yt, yk, yc)))
  else
  if r3 = (5 : Int32) then
  ((fm_copy fl B (ya (p1).toNatClampNeg) ((64 : Int32) + (r2 / (10 : Int32)))).bind fun z12 =>
  match z12 with
  | (B_12) =>
  some (B_12, J, V, ((yo - (1 : Int32)), ya, ys, yl, yt, yk, yc)))
  else
  if (p1 < 0 ∨ 40 ≤ (p1).toNatClampNeg) then none else
  (fm_askPart fl B (yo, ya, (upd ys (p1).toNatClampNeg (1 : Int32)), yl, yt, yk, yc) (ya (p1).toNatClampNeg) (1 : Int32)).bind fun z14 =>
  match z14 with
  | (B_14, Y_14) =>
  some (B_14, J, V, Y_14)
set_option maxHeartbeats 4000000 in
set_option maxRecDepth 100000 in
theorem ok_fm_start {fl : Nat} {N : cN} {C : cC} {E : cE} {F : cF} {P : cP} {Q : cQ} {T : cT} {G : cG} {U : cU} {H : cH} {B : cB} {O : cO} {J : cJ} {V : cV} {Y : cY} {Z : cZ} {O9 : cO9} {k n : Nat} {p1 : Int32} {B' : cB} {J' : cJ} {V' : cV} {Y' : cY} (h : fm_start fl B J V Y p1 = some (B', J', V', Y')) (D : Nat) (hD : 5 ≤ D) : am_Call D 101 [.ref 19, .int p1] (W9 N C E F P Q T G U H B O J V Y Z O9) k n (.inl none, W9 N C E F P Q T G U H B' O J' V' Y' Z O9, k, n) := by
  unfold fm_start at h
  obtain ⟨D, rfl⟩ : ∃ D', D = D' + 1 := ⟨D - 1, by omega⟩
  have hD : 4 ≤ D := by omega
  refine am_call_run (by decide) (by decide) rfl (Nat.le_of_ble_eq_true rfl) (by decide) (L := [(0, .ref 19), (1, .int p1)]) rfl ?_
  obtain ⟨yo, ya, ys, yl, yt, yk, yc⟩ := Y
  try dsimp only at h
  by_cases g1 : (p1 < 0 ∨ 40 ≤ (p1).toNatClampNeg)
  · rw [if_pos g1] at h; cases h
  rw [if_neg g1] at h
  refine am_ev_st 8 (f' := (10, [(2, .int (ya (p1).toNatClampNeg)), (0, .ref 19), (1, .int p1)], [.int (0 : Int32), .int (ya (p1).toNatClampNeg), .ref 19], (W9 N C E F P Q T G U H B O J V (yo, ya, ys, yl, yt, yk, yc) Z O9), k, n)) (g := True ∧ True ∧ True ∧ vp_in (p1) 40 ∧ True ∧ True ∧ True ∧ True ∧ True) (by with_unfolding_all rfl) ⟨trivial, trivial, trivial, g1, trivial, trivial, trivial, trivial, trivial⟩ ?_
  replace h := Option.bind_eq_some_iff.mp h
  obtain ⟨r2, hc2, h⟩ := h
  try dsimp only at h
  refine am_ev_call (.invokevirtual 69) 81 4 820 [.ref 19, .int (ya (p1).toNatClampNeg), .int (0 : Int32)] [] rfl rfl rfl rfl (ok_fm_at hc2 D (by omega)) rfl ?_
  refine am_ev_st 6 (f' := (21, [(4, .int (r2 / (10 : Int32))), (3, .int r2), (2, .int (ya (p1).toNatClampNeg)), (0, .ref 19), (1, .int p1)], [.int r2], (W9 N C E F P Q T G U H B O J V (yo, ya, ys, yl, yt, yk, yc) Z O9), k, n)) (g := True ∧ True ∧ True ∧ ¬ ((10 : Int32) = 0) ∧ True ∧ True ∧ True) (by with_unfolding_all rfl) ⟨trivial, trivial, trivial, by decide, trivial, trivial, trivial⟩ ?_
  replace h := Option.bind_eq_some_iff.mp h
  obtain ⟨r3, hc3, h⟩ := h
  try dsimp only at h
  refine am_ev_call (.invokestatic 80) 78 2 824 [.int r2] [] rfl rfl rfl rfl (ok_fm_kindOf hc3 D (by omega)) rfl ?_
  refine am_ev_st 1 (f' := ((am_tg [(0, 60), (1, 116), (5, 136)] 157 r3), [(4, .int (r2 / (10 : Int32))), (3, .int r2), (2, .int (ya (p1).toNatClampNeg)), (0, .ref 19), (1, .int p1)], [], (W9 N C E F P Q T G U H B O J V (yo, ya, ys, yl, yt, yk, yc) Z O9), k, n)) (g := True ∧ True) (by with_unfolding_all rfl) ⟨trivial, trivial⟩ ?_
  by_cases c4 : r3 = (0 : Int32)
  · rw [if_pos c4] at h
    refine am_ev_sweq c4 ?_
    refine am_ev_st 10 (f' := am_br ((r2 / (10 : Int32)) < yk) 87 76 [(4, .int (r2 / (10 : Int32))), (3, .int r2), (2, .int (ya (p1).toNatClampNeg)), (0, .ref 19), (1, .int p1)] [] (W9 N C E F P Q T G U H B O J V ((yo - (1 : Int32)), ya, ys, yl, yt, yk, yc) Z O9) k n) (g := True ∧ True ∧ True ∧ True ∧ True ∧ True ∧ True ∧ True ∧ True ∧ True ∧ True) (by with_unfolding_all rfl) ⟨trivial, trivial, trivial, trivial, trivial, trivial, trivial, trivial, trivial, trivial, trivial⟩ ?_
    by_cases c5 : (r2 / (10 : Int32)) < yk
    · rw [if_pos c5] at h
      refine am_ev_pos c5 ?_
      by_cases g6 : (((yk - (1 : Int32)) - (r2 / (10 : Int32))) < 0 ∨ 40 ≤ (((yk - (1 : Int32)) - (r2 / (10 : Int32)))).toNatClampNeg)
      · rw [if_pos g6] at h; cases h
      rw [if_neg g6] at h
      refine am_ev_st 11 (f' := (103, [(4, .int (r2 / (10 : Int32))), (3, .int r2), (2, .int (ya (p1).toNatClampNeg)), (0, .ref 19), (1, .int p1)], [.int (yc (((yk - (1 : Int32)) - (r2 / (10 : Int32)))).toNatClampNeg), .int (ya (p1).toNatClampNeg), .ref 19], (W9 N C E F P Q T G U H B O J V ((yo - (1 : Int32)), ya, ys, yl, yt, yk, yc) Z O9), k, n)) (g := True ∧ True ∧ True ∧ True ∧ True ∧ True ∧ True ∧ True ∧ True ∧ True ∧ vp_in (((yk - (1 : Int32)) - (r2 / (10 : Int32)))) 40 ∧ True) (by with_unfolding_all rfl) ⟨trivial, trivial, trivial, trivial, trivial, trivial, trivial, trivial, trivial, trivial, g6, trivial⟩ ?_
      replace h := Option.bind_eq_some_iff.mp h
      obtain ⟨B_7, hc7, h⟩ := h
      try dsimp only at h
      refine am_ev_call (.invokevirtual 144) 84 4 827 [.ref 19, .int (ya (p1).toNatClampNeg), .int (yc (((yk - (1 : Int32)) - (r2 / (10 : Int32)))).toNatClampNeg)] [] rfl rfl rfl rfl (ok_fm_copy hc7 D (by omega)) rfl ?_
      refine am_ev_st 5 (f' := (112, [(4, .int (r2 / (10 : Int32))), (3, .int r2), (2, .int (ya (p1).toNatClampNeg)), (0, .ref 19), (1, .int p1)], [.int ((r2 / (10 : Int32)) + (1 : Int32)), .int (ya (p1).toNatClampNeg), .ref 19], (W9 N C E F P Q T G U H B_7 O J V ((yo - (1 : Int32)), ya, ys, yl, yt, yk, yc) Z O9), k, n)) (g := True ∧ True ∧ True ∧ True ∧ True ∧ True) (by with_unfolding_all rfl) ⟨trivial, trivial, trivial, trivial, trivial, trivial⟩ ?_
      replace h := Option.bind_eq_some_iff.mp h
      obtain ⟨⟨B_8, J_8⟩, hc8, h⟩ := h
      try dsimp only at h
      refine am_ev_call (.invokevirtual 162) 87 4 831 [.ref 19, .int (ya (p1).toNatClampNeg), .int ((r2 / (10 : Int32)) + (1 : Int32))] [] rfl rfl rfl rfl (ok_fm_raise hc8 D (by omega)) rfl ?_
      cases h
      exact am_ev_vret 0 0 0 rfl rfl rfl
    · rw [if_neg c5] at h
      refine am_ev_neg c5 ?_
      obtain ⟨vf, vu, vx⟩ := V
      try dsimp only at h
      refine am_ev_st 4 (f' := (115, [(4, .int (r2 / (10 : Int32))), (3, .int r2), (2, .int (ya (p1).toNatClampNeg)), (0, .ref 19), (1, .int p1)], [], (W9 N C E F P Q T G U H B O J (vf, vu, (2 : Int32)) ((yo - (1 : Int32)), ya, ys, yl, yt, yk, yc) Z O9), k, n)) (g := True ∧ True ∧ True ∧ True ∧ True) (by with_unfolding_all rfl) ⟨trivial, trivial, trivial, trivial, trivial⟩ ?_
      cases h
      exact am_ev_vret 0 0 0 rfl rfl rfl
  rw [if_neg c4] at h
  refine am_ev_swne c4 ?_
  by_cases c9 : r3 = (1 : Int32)
  · rw [if_pos c9] at h
    refine am_ev_sweq c9 ?_
    refine am_ev_st 11 (f' := (132, [(4, .int (r2 / (10 : Int32))), (3, .int r2), (2, .int (ya (p1).toNatClampNeg)), (0, .ref 19), (1, .int p1)], [.int (r2 + (10 : Int32)), .int (ya (p1).toNatClampNeg), .ref 19], (W9 N C E F P Q T G U H B O J V ((yo - (1 : Int32)), ya, ys, yl, yt, yk, yc) Z O9), k, n)) (g := True ∧ True ∧ True ∧ True ∧ True ∧ True ∧ True ∧ True ∧ True ∧ True ∧ True ∧ True) (by with_unfolding_all rfl) ⟨trivial, trivial, trivial, trivial, trivial, trivial, trivial, trivial, trivial, trivial, trivial, trivial⟩ ?_
    replace h := Option.bind_eq_some_iff.mp h
    obtain ⟨B_10, hc10, h⟩ := h
    try dsimp only at h
    refine am_ev_call (.invokevirtual 165) 85 4 841 [.ref 19, .int (ya (p1).toNatClampNeg), .int (r2 + (10 : Int32))] [] rfl rfl rfl rfl (ok_fm_setAtom hc10 D (by omega)) rfl ?_
    cases h
    exact am_ev_vret 0 0 0 rfl rfl rfl
  rw [if_neg c9] at h
  refine am_ev_swne c9 ?_
  by_cases c11 : r3 = (5 : Int32)
  · rw [if_pos c11] at h
    refine am_ev_sweq c11 ?_
    refine am_ev_st 11 (f' := (153, [(4, .int (r2 / (10 : Int32))), (3, .int r2), (2, .int (ya (p1).toNatClampNeg)), (0, .ref 19), (1, .int p1)], [.int ((64 : Int32) + (r2 / (10 : Int32))), .int (ya (p1).toNatClampNeg), .ref 19], (W9 N C E F P Q T G U H B O J V ((yo - (1 : Int32)), ya, ys, yl, yt, yk, yc) Z O9), k, n)) (g := True ∧ True ∧ True ∧ True ∧ True ∧ True ∧ True ∧ True ∧ True ∧ True ∧ True ∧ True) (by with_unfolding_all rfl) ⟨trivial, trivial, trivial, trivial, trivial, trivial, trivial, trivial, trivial, trivial, trivial, trivial⟩ ?_
    replace h := Option.bind_eq_some_iff.mp h
    obtain ⟨B_12, hc12, h⟩ := h
    try dsimp only at h
    refine am_ev_call (.invokevirtual 144) 84 4 827 [.ref 19, .int (ya (p1).toNatClampNeg), .int ((64 : Int32) + (r2 / (10 : Int32)))] [] rfl rfl rfl rfl (ok_fm_copy hc12 D (by omega)) rfl ?_
    cases h
    exact am_ev_vret 0 0 0 rfl rfl rfl
  rw [if_neg c11] at h
  refine am_ev_swne c11 ?_
  refine am_ev_sw0 ?_
  by_cases g13 : (p1 < 0 ∨ 40 ≤ (p1).toNatClampNeg)
  · rw [if_pos g13] at h; cases h
  rw [if_neg g13] at h
  refine am_ev_st 8 (f' := (167, [(4, .int (r2 / (10 : Int32))), (3, .int r2), (2, .int (ya (p1).toNatClampNeg)), (0, .ref 19), (1, .int p1)], [.int (1 : Int32), .int (ya (p1).toNatClampNeg), .ref 19], (W9 N C E F P Q T G U H B O J V (yo, ya, (upd ys (p1).toNatClampNeg (1 : Int32)), yl, yt, yk, yc) Z O9), k, n)) (g := True ∧ True ∧ True ∧ True ∧ vp_in (p1) 40 ∧ True ∧ True ∧ True ∧ True) (by with_unfolding_all rfl) ⟨trivial, trivial, trivial, trivial, g13, trivial, trivial, trivial, trivial⟩ ?_
  replace h := Option.bind_eq_some_iff.mp h
  obtain ⟨⟨B_14, Y_14⟩, hc14, h⟩ := h
  try dsimp only at h
  refine am_ev_call (.invokevirtual 168) 100 4 845 [.ref 19, .int (ya (p1).toNatClampNeg), .int (1 : Int32)] [] rfl rfl rfl rfl (ok_fm_askPart hc14 D (by omega)) rfl ?_
  cases h
  exact am_ev_vret 0 0 0 rfl rfl rfl
