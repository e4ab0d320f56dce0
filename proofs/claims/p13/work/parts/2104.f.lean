def lp_fm_deepOf_14 (fl : Nat) : Nat → cB → cJ → Int32 → Int32 → Int32 → Int32 → Option (Int32 × cJ)
  | 0, _, _, _, _, _, _ => none
  | w + 1, B, J, v1, v2, v3, v4 =>
    match B with
    | (br, bl) =>
    if (v1 < 0 ∨ 96 ≤ (v1).toNatClampNeg) then none else
    if (bl (v1).toNatClampNeg) ≤ v4 then
    (some (v3, J))
    else
    match J with
    | (jp, ji) =>
    if ((v2 + (-1 : Int32)) < 0 ∨ 130 ≤ ((v2 + (-1 : Int32))).toNatClampNeg) then none else
    if (jp ((v2 + (-1 : Int32))).toNatClampNeg) ≤ v3 then
    ((fm_at B v1 v4).bind fun z6 =>
    match z6 with
    | (r6) =>
    (fm_hasParts r6).bind fun z7 =>
    match z7 with
    | (r7) =>
    if (am_bz r7) ≠ 0 then
    (if ((v2 + (-1 : Int32)) < 0 ∨ 130 ≤ ((v2 + (-1 : Int32))).toNatClampNeg) then none else
    if (((v2 + (-1 : Int32)) + (1 : Int32)) < 0 ∨ 130 ≤ (((v2 + (-1 : Int32)) + (1 : Int32))).toNatClampNeg) then none else
    lp_fm_deepOf_14 fl w B ((upd (upd jp ((v2 + (-1 : Int32))).toNatClampNeg ((jp ((v2 + (-1 : Int32))).toNatClampNeg) + (1 : Int32))) (((v2 + (-1 : Int32)) + (1 : Int32))).toNatClampNeg ((jp ((v2 + (-1 : Int32))).toNatClampNeg) + (1 : Int32))), ji) v1 ((v2 + (-1 : Int32)) + (2 : Int32)) v3 (v4 + (1 : Int32)))
    else
    lp_fm_deepOf_14 fl w B J v1 (v2 + (-1 : Int32)) v3 (v4 + (1 : Int32)))
    else
    (fm_at B v1 v4).bind fun z11 =>
    match z11 with
    | (r11) =>
    (fm_hasParts r11).bind fun z12 =>
    match z12 with
    | (r12) =>
    if (am_bz r12) ≠ 0 then
    (if ((v2 + (-1 : Int32)) < 0 ∨ 130 ≤ ((v2 + (-1 : Int32))).toNatClampNeg) then none else
    if (((v2 + (-1 : Int32)) + (1 : Int32)) < 0 ∨ 130 ≤ (((v2 + (-1 : Int32)) + (1 : Int32))).toNatClampNeg) then none else
    lp_fm_deepOf_14 fl w B ((upd (upd jp ((v2 + (-1 : Int32))).toNatClampNeg ((jp ((v2 + (-1 : Int32))).toNatClampNeg) + (1 : Int32))) (((v2 + (-1 : Int32)) + (1 : Int32))).toNatClampNeg ((jp ((v2 + (-1 : Int32))).toNatClampNeg) + (1 : Int32))), ji) v1 ((v2 + (-1 : Int32)) + (2 : Int32)) (jp ((v2 + (-1 : Int32))).toNatClampNeg) (v4 + (1 : Int32)))
    else
    lp_fm_deepOf_14 fl w B J v1 (v2 + (-1 : Int32)) (jp ((v2 + (-1 : Int32))).toNatClampNeg) (v4 + (1 : Int32))
def fm_deepOf (fl : Nat) (B : cB) (J : cJ) (p1 : Int32) : Option (Int32 × cJ) :=
  match J with
  | (jp, ji) =>
  if ((0 : Int32) < 0 ∨ 130 ≤ ((0 : Int32)).toNatClampNeg) then none else
  lp_fm_deepOf_14 fl fl B ((upd jp ((0 : Int32)).toNatClampNeg (1 : Int32)), ji) p1 (1 : Int32) (0 : Int32) (0 : Int32)
set_option maxHeartbeats 4000000 in
set_option maxRecDepth 100000 in
theorem ok_lp_fm_deepOf_14 {fl : Nat} : ∀ {w : Nat} {N : cN} {C : cC} {E : cE} {F : cF} {P : cP} {Q : cQ} {T : cT} {G : cG} {U : cU} {H : cH} {B : cB} {O : cO} {J : cJ} {V : cV} {Y : cY} {Z : cZ} {O9 : cO9} {k n : Nat} {v1 : Int32} {v2 : Int32} {v3 : Int32} {v4 : Int32} {rv : Int32} {J' : cJ} (h : lp_fm_deepOf_14 fl w B J v1 v2 v3 v4 = some (rv, J')) (D : Nat) (hD : 1 ≤ D), am_Ev D 86 0 (fun _ => 0) (14, [(0, .ref 19), (1, .int v1), (2, .int v2), (3, .int v3), (4, .int v4)], [], (W9 N C E F P Q T G U H B O J V Y Z O9), k, n) (.inl (some (.int rv)), W9 N C E F P Q T G U H B O J' V Y Z O9, k, n) := by
  intro w
  induction w with
  | zero => intros; rename_i h _ _; cases h
  | succ w ih0 =>
    intro N C E F P Q T G U H B O J V Y Z O9 k n v1 v2 v3 v4 rv J' h D hD
    have ih := fun {N} {C} {E} {F} {P} {Q} {T} {G} {U} {H} {B} {O} {J} {V} {Y} {Z} {O9} {k} {n} {v1} {v2} {v3} {v4} {rv} {J'} h => @ih0 N C E F P Q T G U H B O J V Y Z O9 k n v1 v2 v3 v4 rv J' h D hD
    unfold lp_fm_deepOf_14 at h
    obtain ⟨br, bl⟩ := B
    try dsimp only at h
    by_cases g2 : (v1 < 0 ∨ 96 ≤ (v1).toNatClampNeg)
    · rw [if_pos g2] at h; cases h
    rw [if_neg g2] at h
    refine am_ev_st 6 (f' := am_br ((bl (v1).toNatClampNeg) ≤ v4) 96 22 [(0, .ref 19), (1, .int v1), (2, .int v2), (3, .int v3), (4, .int v4)] [] (W9 N C E F P Q T G U H (br, bl) O J V Y Z O9) k n) (g := True ∧ True ∧ True ∧ True ∧ vp_in (v1) 96 ∧ True ∧ True) (by with_unfolding_all rfl) ⟨trivial, trivial, trivial, trivial, g2, trivial, trivial⟩ ?_
    by_cases c3 : (bl (v1).toNatClampNeg) ≤ v4
    · rw [if_pos c3] at h
      refine am_ev_pos c3 ?_
      refine am_ev_st 1 (f' := (97, [(0, .ref 19), (1, .int v1), (2, .int v2), (3, .int v3), (4, .int v4)], [.int v3], (W9 N C E F P Q T G U H (br, bl) O J V Y Z O9), k, n)) (g := True ∧ True) (by with_unfolding_all rfl) ⟨trivial, trivial⟩ ?_
      cases h
      exact am_ev_ret 0 0 0 rfl .int rfl rfl rfl
    · rw [if_neg c3] at h
      refine am_ev_neg c3 ?_
      obtain ⟨jp, ji⟩ := J
      try dsimp only at h
      by_cases g4 : ((v2 + (-1 : Int32)) < 0 ∨ 130 ≤ ((v2 + (-1 : Int32))).toNatClampNeg)
      · rw [if_pos g4] at h; cases h
      rw [if_neg g4] at h
      refine am_ev_st 9 (f' := am_br ((jp ((v2 + (-1 : Int32))).toNatClampNeg) ≤ v3) 47 39 [(5, .int (jp ((v2 + (-1 : Int32))).toNatClampNeg)), (2, .int (v2 + (-1 : Int32))), (0, .ref 19), (1, .int v1), (3, .int v3), (4, .int v4)] [] (W9 N C E F P Q T G U H (br, bl) O (jp, ji) V Y Z O9) k n) (g := True ∧ True ∧ True ∧ True ∧ vp_in ((v2 + (-1 : Int32))) 130 ∧ True ∧ True ∧ True ∧ True ∧ True) (by with_unfolding_all rfl) ⟨trivial, trivial, trivial, trivial, g4, trivial, trivial, trivial, trivial, trivial⟩ ?_
      by_cases c5 : (jp ((v2 + (-1 : Int32))).toNatClampNeg) ≤ v3
      · rw [if_pos c5] at h
        refine am_ev_pos c5 ?_
        refine am_ev_st 5 (f' := (53, [(3, .int v3), (5, .int (jp ((v2 + (-1 : Int32))).toNatClampNeg)), (2, .int (v2 + (-1 : Int32))), (0, .ref 19), (1, .int v1), (4, .int v4)], [.int v4, .int v1, .ref 19], (W9 N C E F P Q T G U H (br, bl) O (jp, ji) V Y Z O9), k, n)) (g := True ∧ True ∧ True ∧ True ∧ True ∧ True) (by with_unfolding_all rfl) ⟨trivial, trivial, trivial, trivial, trivial, trivial⟩ ?_
        replace h := Option.bind_eq_some_iff.mp h
        obtain ⟨r6, hc6, h⟩ := h
        try dsimp only at h
        refine am_ev_call (.invokevirtual 69) 81 4 820 [.ref 19, .int v1, .int v4] [] rfl rfl rfl rfl (ok_fm_at hc6 D (by omega)) rfl ?_
        replace h := Option.bind_eq_some_iff.mp h
        obtain ⟨r7, hc7, h⟩ := h
        try dsimp only at h
        refine am_ev_call (.invokestatic 73) 79 2 835 [.int r6] [] rfl rfl rfl rfl (ok_fm_hasParts hc7 D (by omega)) rfl ?_
        refine am_ev_st 1 (f' := am_br ((am_bz r7) ≠ 0) 65 59 [(3, .int v3), (5, .int (jp ((v2 + (-1 : Int32))).toNatClampNeg)), (2, .int (v2 + (-1 : Int32))), (0, .ref 19), (1, .int v1), (4, .int v4)] [] (W9 N C E F P Q T G U H (br, bl) O (jp, ji) V Y Z O9) k n) (g := True ∧ True) (by with_unfolding_all rfl) ⟨trivial, trivial⟩ ?_
        by_cases c8 : (am_bz r7) ≠ 0
        · rw [if_pos c8] at h
          refine am_ev_pos c8 ?_
          by_cases g9 : ((v2 + (-1 : Int32)) < 0 ∨ 130 ≤ ((v2 + (-1 : Int32))).toNatClampNeg)
          · rw [if_pos g9] at h; cases h
          rw [if_neg g9] at h
          by_cases g10 : (((v2 + (-1 : Int32)) + (1 : Int32)) < 0 ∨ 130 ≤ (((v2 + (-1 : Int32)) + (1 : Int32))).toNatClampNeg)
          · rw [if_pos g10] at h; cases h
          rw [if_neg g10] at h
          refine am_ev_st 19 (f' := (14, [(4, .int (v4 + (1 : Int32))), (2, .int ((v2 + (-1 : Int32)) + (2 : Int32))), (3, .int v3), (5, .int (jp ((v2 + (-1 : Int32))).toNatClampNeg)), (0, .ref 19), (1, .int v1)], [], (W9 N C E F P Q T G U H (br, bl) O ((upd (upd jp ((v2 + (-1 : Int32))).toNatClampNeg ((jp ((v2 + (-1 : Int32))).toNatClampNeg) + (1 : Int32))) (((v2 + (-1 : Int32)) + (1 : Int32))).toNatClampNeg ((jp ((v2 + (-1 : Int32))).toNatClampNeg) + (1 : Int32))), ji) V Y Z O9), k, n)) (g := True ∧ True ∧ True ∧ True ∧ True ∧ True ∧ vp_in ((v2 + (-1 : Int32))) 130 ∧ True ∧ True ∧ True ∧ True ∧ True ∧ True ∧ True ∧ True ∧ vp_in (((v2 + (-1 : Int32)) + (1 : Int32))) 130 ∧ True ∧ True ∧ True ∧ True) (by with_unfolding_all rfl) ⟨trivial, trivial, trivial, trivial, trivial, trivial, g9, trivial, trivial, trivial, trivial, trivial, trivial, trivial, trivial, g10, trivial, trivial, trivial, trivial⟩ ?_
          refine am_ev_drop [4, 5, 1, 2, 0] rfl rfl ?_
          exact ih h
        · rw [if_neg c8] at h
          refine am_ev_neg c8 ?_
          refine am_ev_st 3 (f' := (14, [(4, .int (v4 + (1 : Int32))), (3, .int v3), (5, .int (jp ((v2 + (-1 : Int32))).toNatClampNeg)), (2, .int (v2 + (-1 : Int32))), (0, .ref 19), (1, .int v1)], [], (W9 N C E F P Q T G U H (br, bl) O (jp, ji) V Y Z O9), k, n)) (g := True ∧ True ∧ True ∧ True) (by with_unfolding_all rfl) ⟨trivial, trivial, trivial, trivial⟩ ?_
          refine am_ev_drop [4, 5, 3, 1, 0] rfl rfl ?_
          exact ih h
      · rw [if_neg c5] at h
        refine am_ev_neg c5 ?_
        refine am_ev_st 6 (f' := (53, [(3, .int (jp ((v2 + (-1 : Int32))).toNatClampNeg)), (5, .int (jp ((v2 + (-1 : Int32))).toNatClampNeg)), (2, .int (v2 + (-1 : Int32))), (0, .ref 19), (1, .int v1), (4, .int v4)], [.int v4, .int v1, .ref 19], (W9 N C E F P Q T G U H (br, bl) O (jp, ji) V Y Z O9), k, n)) (g := True ∧ True ∧ True ∧ True ∧ True ∧ True ∧ True) (by with_unfolding_all rfl) ⟨trivial, trivial, trivial, trivial, trivial, trivial, trivial⟩ ?_
        replace h := Option.bind_eq_some_iff.mp h
        obtain ⟨r11, hc11, h⟩ := h
        try dsimp only at h
        refine am_ev_call (.invokevirtual 69) 81 4 820 [.ref 19, .int v1, .int v4] [] rfl rfl rfl rfl (ok_fm_at hc11 D (by omega)) rfl ?_
        replace h := Option.bind_eq_some_iff.mp h
        obtain ⟨r12, hc12, h⟩ := h
        try dsimp only at h
        refine am_ev_call (.invokestatic 73) 79 2 835 [.int r11] [] rfl rfl rfl rfl (ok_fm_hasParts hc12 D (by omega)) rfl ?_
        refine am_ev_st 1 (f' := am_br ((am_bz r12) ≠ 0) 65 59 [(3, .int (jp ((v2 + (-1 : Int32))).toNatClampNeg)), (5, .int (jp ((v2 + (-1 : Int32))).toNatClampNeg)), (2, .int (v2 + (-1 : Int32))), (0, .ref 19), (1, .int v1), (4, .int v4)] [] (W9 N C E F P Q T G U H (br, bl) O (jp, ji) V Y Z O9) k n) (g := True ∧ True) (by with_unfolding_all rfl) ⟨trivial, trivial⟩ ?_
        by_cases c13 : (am_bz r12) ≠ 0
        · rw [if_pos c13] at h
          refine am_ev_pos c13 ?_
          by_cases g14 : ((v2 + (-1 : Int32)) < 0 ∨ 130 ≤ ((v2 + (-1 : Int32))).toNatClampNeg)
          · rw [if_pos g14] at h; cases h
          rw [if_neg g14] at h
          by_cases g15 : (((v2 + (-1 : Int32)) + (1 : Int32)) < 0 ∨ 130 ≤ (((v2 + (-1 : Int32)) + (1 : Int32))).toNatClampNeg)
          · rw [if_pos g15] at h; cases h
          rw [if_neg g15] at h
          refine am_ev_st 19 (f' := (14, [(4, .int (v4 + (1 : Int32))), (2, .int ((v2 + (-1 : Int32)) + (2 : Int32))), (3, .int (jp ((v2 + (-1 : Int32))).toNatClampNeg)), (5, .int (jp ((v2 + (-1 : Int32))).toNatClampNeg)), (0, .ref 19), (1, .int v1)], [], (W9 N C E F P Q T G U H (br, bl) O ((upd (upd jp ((v2 + (-1 : Int32))).toNatClampNeg ((jp ((v2 + (-1 : Int32))).toNatClampNeg) + (1 : Int32))) (((v2 + (-1 : Int32)) + (1 : Int32))).toNatClampNeg ((jp ((v2 + (-1 : Int32))).toNatClampNeg) + (1 : Int32))), ji) V Y Z O9), k, n)) (g := True ∧ True ∧ True ∧ True ∧ True ∧ True ∧ vp_in ((v2 + (-1 : Int32))) 130 ∧ True ∧ True ∧ True ∧ True ∧ True ∧ True ∧ True ∧ True ∧ vp_in (((v2 + (-1 : Int32)) + (1 : Int32))) 130 ∧ True ∧ True ∧ True ∧ True) (by with_unfolding_all rfl) ⟨trivial, trivial, trivial, trivial, trivial, trivial, g14, trivial, trivial, trivial, trivial, trivial, trivial, trivial, trivial, g15, trivial, trivial, trivial, trivial⟩ ?_
          refine am_ev_drop [4, 5, 1, 2, 0] rfl rfl ?_
          exact ih h
        · rw [if_neg c13] at h
          refine am_ev_neg c13 ?_
          refine am_ev_st 3 (f' := (14, [(4, .int (v4 + (1 : Int32))), (3, .int (jp ((v2 + (-1 : Int32))).toNatClampNeg)), (5, .int (jp ((v2 + (-1 : Int32))).toNatClampNeg)), (2, .int (v2 + (-1 : Int32))), (0, .ref 19), (1, .int v1)], [], (W9 N C E F P Q T G U H (br, bl) O (jp, ji) V Y Z O9), k, n)) (g := True ∧ True ∧ True ∧ True) (by with_unfolding_all rfl) ⟨trivial, trivial, trivial, trivial⟩ ?_
          refine am_ev_drop [4, 5, 3, 1, 0] rfl rfl ?_
          exact ih h
set_option maxHeartbeats 4000000 in
set_option maxRecDepth 100000 in
theorem ok_fm_deepOf {fl : Nat} {N : cN} {C : cC} {E : cE} {F : cF} {P : cP} {Q : cQ} {T : cT} {G : cG} {U : cU} {H : cH} {B : cB} {O : cO} {J : cJ} {V : cV} {Y : cY} {Z : cZ} {O9 : cO9} {k n : Nat} {p1 : Int32} {rv : Int32} {J' : cJ} (h : fm_deepOf fl B J p1 = some (rv, J')) (D : Nat) (hD : 2 ≤ D) : am_Call D 86 [.ref 19, .int p1] (W9 N C E F P Q T G U H B O J V Y Z O9) k n (.inl (some (.int rv)), W9 N C E F P Q T G U H B O J' V Y Z O9, k, n) := by
  unfold fm_deepOf at h
  obtain ⟨D, rfl⟩ : ∃ D', D = D' + 1 := ⟨D - 1, by omega⟩
  have hD : 1 ≤ D := by omega
  refine am_call_run (by decide) (by decide) rfl (Nat.le_of_ble_eq_true rfl) (by decide) (L := [(0, .ref 19), (1, .int p1)]) rfl ?_
  obtain ⟨jp, ji⟩ := J
  try dsimp only at h
  by_cases g1 : ((0 : Int32) < 0 ∨ 130 ≤ ((0 : Int32)).toNatClampNeg)
  · rw [if_pos g1] at h; cases h
  rw [if_neg g1] at h
  refine am_ev_st 11 (f' := (14, [(4, .int (0 : Int32)), (3, .int (0 : Int32)), (2, .int (1 : Int32)), (0, .ref 19), (1, .int p1)], [], (W9 N C E F P Q T G U H B O ((upd jp ((0 : Int32)).toNatClampNeg (1 : Int32)), ji) V Y Z O9), k, n)) (g := True ∧ True ∧ True ∧ True ∧ True ∧ True ∧ True ∧ True ∧ vp_in ((0 : Int32)) 130 ∧ True ∧ True ∧ True) (by with_unfolding_all rfl) ⟨trivial, trivial, trivial, trivial, trivial, trivial, trivial, trivial, g1, trivial, trivial, trivial⟩ ?_
  refine am_ev_drop [3, 4, 2, 1, 0] rfl rfl ?_
  exact ok_lp_fm_deepOf_14 h D hD
def lp_fm_take_9 (fl : Nat) : Nat → cB → cO → cJ → cV → Int32 → Int32 → Option (Bool × cB × cJ × cV)
  | 0, _, _, _, _, _, _ => none
  | w + 1, B, O, J, V, v1, v2 =>
    match O with
    | (om, oo, og) =>
    if om ≤ v2 then
    (match B with
    | (br, bl) =>
    if (v1 < 0 ∨ 96 ≤ (v1).toNatClampNeg) then none else
    (fm_deepOf fl (br, (upd bl (v1).toNatClampNeg om)) J v1).bind fun z4 =>
    match z4 with
    | (r4, J_4) =>
    if (12 : Int32) < r4 then
    (match V with
    | (vf, vu, vx) =>
    some (false, (br, (upd bl (v1).toNatClampNeg om)), J_4, (vf, vu, (3 : Int32))))
    else
    some (true, (br, (upd bl (v1).toNatClampNeg om)), J_4, V))
    else
    match B with
    | (br, bl) =>
    if (v2 < 0 ∨ 60 ≤ (v2).toNatClampNeg) then none else
    if ((((60 : Int32) * v1) + v2) < 0 ∨ 5760 ≤ ((((60 : Int32) * v1) + v2)).toNatClampNeg) then none else
    lp_fm_take_9 fl w ((upd br ((((60 : Int32) * v1) + v2)).toNatClampNeg (oo (v2).toNatClampNeg)), bl) O J V v1 (v2 + (1 : Int32))
def fm_take (fl : Nat) (B : cB) (O : cO) (J : cJ) (V : cV) (p1 : Int32) : Option (Bool × cB × cJ × cV) :=
  match O with
  | (om, oo, og) =>
  if og ≠ 0 then
  (match V with
  | (vf, vu, vx) =>
  some (false, B, J, (vf, vu, (3 : Int32))))
  else
  lp_fm_take_9 fl fl B O J V p1 (0 : Int32)
set_option maxHeartbeats 4000000 in
set_option maxRecDepth 100000 in
theorem ok_lp_fm_take_9 {fl : Nat} : ∀ {w : Nat} {N : cN} {C : cC} {E : cE} {F : cF} {P : cP} {Q : cQ} {T : cT} {G : cG} {U : cU} {H : cH} {B : cB} {O : cO} {J : cJ} {V : cV} {Y : cY} {Z : cZ} {O9 : cO9} {k n : Nat} {v1 : Int32} {v2 : Int32} {rv : Bool} {B' : cB} {J' : cJ} {V' : cV} (h : lp_fm_take_9 fl w B O J V v1 v2 = some (rv, B', J', V')) (D : Nat) (hD : 2 ≤ D), am_Ev D 93 0 (fun _ => 0) (9, [(0, .ref 19), (1, .int v1), (2, .int v2)], [], (W9 N C E F P Q T G U H B O J V Y Z O9), k, n) (.inl (some (.int (am_bz rv))), W9 N C E F P Q T G U H B' O J' V' Y Z O9, k, n) := by
  intro w
  induction w with
  | zero => intros; rename_i h _ _; cases h
  | succ w ih0 =>
    intro N C E F P Q T G U H B O J V Y Z O9 k n v1 v2 rv B' J' V' h D hD
    have ih := fun {N} {C} {E} {F} {P} {Q} {T} {G} {U} {H} {B} {O} {J} {V} {Y} {Z} {O9} {k} {n} {v1} {v2} {rv} {B'} {J'} {V'} h => @ih0 N C E F P Q T G U H B O J V Y Z O9 k n v1 v2 rv B' J' V' h D hD
    unfold lp_fm_take_9 at h
    obtain ⟨om, oo, og⟩ := O
    try dsimp only at h
    refine am_ev_st 4 (f' := am_br (om ≤ v2) 40 14 [(0, .ref 19), (1, .int v1), (2, .int v2)] [] (W9 N C E F P Q T G U H B (om, oo, og) J V Y Z O9) k n) (g := True ∧ True ∧ True ∧ True ∧ True) (by with_unfolding_all rfl) ⟨trivial, trivial, trivial, trivial, trivial⟩ ?_
    by_cases c2 : om ≤ v2
    · rw [if_pos c2] at h
      refine am_ev_pos c2 ?_
      obtain ⟨br, bl⟩ := B
      try dsimp only at h
      by_cases g3 : (v1 < 0 ∨ 96 ≤ (v1).toNatClampNeg)
      · rw [if_pos g3] at h; cases h
      rw [if_neg g3] at h
      refine am_ev_st 8 (f' := (52, [(0, .ref 19), (1, .int v1), (2, .int v2)], [.int v1, .ref 19], (W9 N C E F P Q T G U H (br, (upd bl (v1).toNatClampNeg om)) (om, oo, og) J V Y Z O9), k, n)) (g := True ∧ True ∧ True ∧ True ∧ True ∧ vp_in (v1) 96 ∧ True ∧ True ∧ True) (by with_unfolding_all rfl) ⟨trivial, trivial, trivial, trivial, trivial, g3, trivial, trivial, trivial⟩ ?_
      replace h := Option.bind_eq_some_iff.mp h
      obtain ⟨⟨r4, J_4⟩, hc4, h⟩ := h
      try dsimp only at h
      refine am_ev_call (.invokevirtual 102) 86 2 889 [.ref 19, .int v1] [] rfl rfl rfl rfl (ok_fm_deepOf hc4 D (by omega)) rfl ?_
      refine am_ev_st 2 (f' := am_br ((12 : Int32) < r4) 62 57 [(0, .ref 19), (1, .int v1), (2, .int v2)] [] (W9 N C E F P Q T G U H (br, (upd bl (v1).toNatClampNeg om)) (om, oo, og) J_4 V Y Z O9) k n) (g := True ∧ True ∧ True) (by with_unfolding_all rfl) ⟨trivial, trivial, trivial⟩ ?_
      by_cases c5 : (12 : Int32) < r4
      · rw [if_pos c5] at h
        refine am_ev_pos c5 ?_
        obtain ⟨vf, vu, vx⟩ := V
        try dsimp only at h
        refine am_ev_st 4 (f' := (68, [(0, .ref 19), (1, .int v1), (2, .int v2)], [.int (0 : Int32)], (W9 N C E F P Q T G U H (br, (upd bl (v1).toNatClampNeg om)) (om, oo, og) J_4 (vf, vu, (3 : Int32)) Y Z O9), k, n)) (g := True ∧ True ∧ True ∧ True ∧ True) (by with_unfolding_all rfl) ⟨trivial, trivial, trivial, trivial, trivial⟩ ?_
        cases h
        exact am_ev_ret 0 0 0 rfl .boolean rfl am_n0 rfl
      · rw [if_neg c5] at h
        refine am_ev_neg c5 ?_
        refine am_ev_st 1 (f' := (61, [(0, .ref 19), (1, .int v1), (2, .int v2)], [.int (1 : Int32)], (W9 N C E F P Q T G U H (br, (upd bl (v1).toNatClampNeg om)) (om, oo, og) J_4 V Y Z O9), k, n)) (g := True ∧ True) (by with_unfolding_all rfl) ⟨trivial, trivial⟩ ?_
        cases h
        exact am_ev_ret 0 0 0 rfl .boolean rfl am_n1 rfl
    · rw [if_neg c2] at h
      refine am_ev_neg c2 ?_
      obtain ⟨br, bl⟩ := B
      try dsimp only at h
      by_cases g6 : (v2 < 0 ∨ 60 ≤ (v2).toNatClampNeg)
      · rw [if_pos g6] at h; cases h
      rw [if_neg g6] at h
      by_cases g7 : ((((60 : Int32) * v1) + v2) < 0 ∨ 5760 ≤ ((((60 : Int32) * v1) + v2)).toNatClampNeg)
      · rw [if_pos g7] at h; cases h
      rw [if_neg g7] at h
      refine am_ev_st 14 (f' := (9, [(2, .int (v2 + (1 : Int32))), (0, .ref 19), (1, .int v1)], [], (W9 N C E F P Q T G U H ((upd br ((((60 : Int32) * v1) + v2)).toNatClampNeg (oo (v2).toNatClampNeg)), bl) (om, oo, og) J V Y Z O9), k, n)) (g := True ∧ True ∧ True ∧ True ∧ True ∧ True ∧ True ∧ True ∧ True ∧ True ∧ vp_in (v2) 60 ∧ vp_in ((((60 : Int32) * v1) + v2)) 5760 ∧ True ∧ True ∧ True) (by with_unfolding_all rfl) ⟨trivial, trivial, trivial, trivial, trivial, trivial, trivial, trivial, trivial, trivial, g6, g7, trivial, trivial, trivial⟩ ?_
      refine am_ev_drop [1, 2, 0] rfl rfl ?_
      exact ih h
set_option maxHeartbeats 4000000 in
set_option maxRecDepth 100000 in
theorem ok_fm_take {fl : Nat} {N : cN} {C : cC} {E : cE} {F : cF} {P : cP} {Q : cQ} {T : cT} {G : cG} {U : cU} {H : cH} {B : cB} {O : cO} {J : cJ} {V : cV} {Y : cY} {Z : cZ} {O9 : cO9} {k n : Nat} {p1 : Int32} {rv : Bool} {B' : cB} {J' : cJ} {V' : cV} (h : fm_take fl B O J V p1 = some (rv, B', J', V')) (D : Nat) (hD : 3 ≤ D) : am_Call D 93 [.ref 19, .int p1] (W9 N C E F P Q T G U H B O J V Y Z O9) k n (.inl (some (.int (am_bz rv))), W9 N C E F P Q T G U H B' O J' V' Y Z O9, k, n) := by
  unfold fm_take at h
  obtain ⟨D, rfl⟩ : ∃ D', D = D' + 1 := ⟨D - 1, by omega⟩
  have hD : 2 ≤ D := by omega
  refine am_call_run (by decide) (by decide) rfl (Nat.le_of_ble_eq_true rfl) (by decide) (L := [(0, .ref 19), (1, .int p1)]) rfl ?_
  obtain ⟨om, oo, og⟩ := O
  try dsimp only at h
  refine am_ev_st 3 (f' := am_br (og ≠ 0) 62 4 [(0, .ref 19), (1, .int p1)] [] (W9 N C E F P Q T G U H B (om, oo, og) J V Y Z O9) k n) (g := True ∧ True ∧ True ∧ True) (by with_unfolding_all rfl) ⟨trivial, trivial, trivial, trivial⟩ ?_
  by_cases c1 : og ≠ 0
  · rw [if_pos c1] at h
    refine am_ev_pos c1 ?_
    obtain ⟨vf, vu, vx⟩ := V
    try dsimp only at h
    refine am_ev_st 4 (f' := (68, [(0, .ref 19), (1, .int p1)], [.int (0 : Int32)], (W9 N C E F P Q T G U H B (om, oo, og) J (vf, vu, (3 : Int32)) Y Z O9), k, n)) (g := True ∧ True ∧ True ∧ True ∧ True) (by with_unfolding_all rfl) ⟨trivial, trivial, trivial, trivial, trivial⟩ ?_
    cases h
    exact am_ev_ret 0 0 0 rfl .boolean rfl am_n0 rfl
  · rw [if_neg c1] at h
    refine am_ev_neg c1 ?_
    refine am_ev_st 2 (f' := (9, [(2, .int (0 : Int32)), (0, .ref 19), (1, .int p1)], [], (W9 N C E F P Q T G U H B (om, oo, og) J V Y Z O9), k, n)) (g := True ∧ True ∧ True) (by with_unfolding_all rfl) ⟨trivial, trivial, trivial⟩ ?_
    refine am_ev_drop [1, 2, 0] rfl rfl ?_
    exact ok_lp_fm_take_9 h D hD
def lp_fm_toHead_19 (fl : Nat) : Nat → cG → cB → cO → cJ → cV → Int32 → Int32 → Int32 → Option (cB × cO × cJ × cV × Int32 × Int32 × Int32)
  | 0, _, _, _, _, _, _, _, _ => none
  | w + 1, G, B, O, J, V, v1, v2, v3 =>
    (fm_at B v1 v3).bind fun z3 =>
    match z3 with
    | (r3) =>
    (fm_kindOf r3).bind fun z4 =>
    match z4 with
    | (r4) =>
    if r4 ≠ (4 : Int32) then
    (some (B, O, J, V, v1, v2, v3))
    else
    lp_fm_toHead_19 fl w G B O J V v1 v2 (v3 + (1 : Int32))
def lp_fm_toHead_13 (fl : Nat) : Nat → cG → cB → cO → cJ → cV → Int32 → Int32 → Option (cB × cO × cJ × cV)
  | 0, _, _, _, _, _, _, _ => none
  | w + 1, G, B, O, J, V, v1, v2 =>
    if v2 = 0 then
    (some (B, O, J, V))
    else
    (lp_fm_toHead_19 fl fl G B O J V v1 v2 (0 : Int32)).bind fun z6 =>
    match z6 with
    | (B_6, O_6, J_6, V_6, v1_6, v2_6, v3_6) =>
    (fm_at B_6 v1_6 v3_6).bind fun z7 =>
    match z7 with
    | (r7) =>
    (fm_kindOf r7).bind fun z8 =>
    match z8 with
    | (r8) =>
    if r8 ≠ (3 : Int32) then
    ((fm_kindOf r7).bind fun z10 =>
    match z10 with
    | (r10) =>
    if r10 ≠ (5 : Int32) then
    (if (0 : Int32) ≠ 0 then
    (match V_6 with
    | (vf_6, vu_6, vx_6) =>
    if vu_6 ≠ vf_6 then
    ((fm_begin O_6).bind fun z14 =>
    match z14 with
    | (O_14) =>
    if (0 : Int32) = 0 then
    ((fm_putAll fl B_6 O_14 v1_6 (0 : Int32) v3_6).bind fun z16 =>
    match z16 with
    | (O_16) =>
    match B_6 with
    | (br_6, bl_6) =>
    if (((80 : Int32) + (r7 / (10 : Int32))) < 0 ∨ 96 ≤ (((80 : Int32) + (r7 / (10 : Int32)))).toNatClampNeg) then none else
    (fm_putAll fl B_6 O_16 ((80 : Int32) + (r7 / (10 : Int32))) (0 : Int32) (bl_6 (((80 : Int32) + (r7 / (10 : Int32)))).toNatClampNeg)).bind fun z18 =>
    match z18 with
    | (O_18) =>
    if (v1_6 < 0 ∨ 96 ≤ (v1_6).toNatClampNeg) then none else
    (fm_putAll fl B_6 O_18 v1_6 (v3_6 + (1 : Int32)) (bl_6 (v1_6).toNatClampNeg)).bind fun z20 =>
    match z20 with
    | (O_20) =>
    (fm_take fl B_6 O_20 J_6 V_6 v1_6).bind fun z21 =>
    match z21 with
    | (r21, B_21, J_21, V_21) =>
    if (am_bz r21) ≠ 0 then
    (match V_21 with
    | (vf_21, vu_21, vx_21) =>
    lp_fm_toHead_13 fl w G B_21 O_20 J_21 (vf_21, (vu_21 + (1 : Int32)), vx_21) v1_6 v2_6)
    else
    some (B_21, O_20, J_21, V_21))
    else
    (fm_endOf fl B_6 v1_6 (v3_6 + (1 : Int32))).bind fun z23 =>
    match z23 with
    | (r23) =>
    (fm_endOf fl B_6 v1_6 r23).bind fun z24 =>
    match z24 with
    | (r24) =>
    (fm_endOf fl B_6 v1_6 r24).bind fun z25 =>
    match z25 with
    | (r25) =>
    (fm_putAll fl B_6 O_14 v1_6 (0 : Int32) (v3_6 - (1 : Int32))).bind fun z26 =>
    match z26 with
    | (O_26) =>
    (fm_putFor fl B_6 O_26 J_6 v1_6 r23 r24 v1_6 r24 r25).bind fun z27 =>
    match z27 with
    | (O_27, J_27) =>
    match B_6 with
    | (br_6, bl_6) =>
    if (v1_6 < 0 ∨ 96 ≤ (v1_6).toNatClampNeg) then none else
    (fm_putAll fl B_6 O_27 v1_6 r25 (bl_6 (v1_6).toNatClampNeg)).bind fun z29 =>
    match z29 with
    | (O_29) =>
    (fm_take fl B_6 O_29 J_27 V_6 v1_6).bind fun z30 =>
    match z30 with
    | (r30, B_30, J_30, V_30) =>
    if (am_bz r30) ≠ 0 then
    (match V_30 with
    | (vf_30, vu_30, vx_30) =>
    lp_fm_toHead_13 fl w G B_30 O_29 J_30 (vf_30, (vu_30 + (1 : Int32)), vx_30) v1_6 v2_6)
    else
    some (B_30, O_29, J_30, V_30))
    else
    some (B_6, O_6, J_6, (vf_6, vu_6, (3 : Int32))))
    else
    if (0 : Int32) ≠ 0 then
    (match V_6 with
    | (vf_6, vu_6, vx_6) =>
    if vu_6 ≠ vf_6 then
    ((fm_begin O_6).bind fun z34 =>
    match z34 with
    | (O_34) =>
    if (0 : Int32) = 0 then
    ((fm_putAll fl B_6 O_34 v1_6 (0 : Int32) v3_6).bind fun z36 =>
    match z36 with
    | (O_36) =>
    match B_6 with
    | (br_6, bl_6) =>
    if (((80 : Int32) + (r7 / (10 : Int32))) < 0 ∨ 96 ≤ (((80 : Int32) + (r7 / (10 : Int32)))).toNatClampNeg) then none else
    (fm_putAll fl B_6 O_36 ((80 : Int32) + (r7 / (10 : Int32))) (0 : Int32) (bl_6 (((80 : Int32) + (r7 / (10 : Int32)))).toNatClampNeg)).bind fun z38 =>
    match z38 with
    | (O_38) =>
    if (v1_6 < 0 ∨ 96 ≤ (v1_6).toNatClampNeg) then none else
    (fm_putAll fl B_6 O_38 v1_6 (v3_6 + (1 : Int32)) (bl_6 (v1_6).toNatClampNeg)).bind fun z40 =>
    match z40 with
    | (O_40) =>
    (fm_take fl B_6 O_40 J_6 V_6 v1_6).bind fun z41 =>
    match z41 with
    | (r41, B_41, J_41, V_41) =>
    if (am_bz r41) ≠ 0 then
    (match V_41 with
    | (vf_41, vu_41, vx_41) =>
    lp_fm_toHead_13 fl w G B_41 O_40 J_41 (vf_41, (vu_41 + (1 : Int32)), vx_41) v1_6 v2_6)
    else
    some (B_41, O_40, J_41, V_41))
    else
    (fm_endOf fl B_6 v1_6 (v3_6 + (1 : Int32))).bind fun z43 =>
    match z43 with
    | (r43) =>
    (fm_endOf fl B_6 v1_6 r43).bind fun z44 =>
    match z44 with
    | (r44) =>
    (fm_endOf fl B_6 v1_6 r44).bind fun z45 =>
    match z45 with
    | (r45) =>
    (fm_putAll fl B_6 O_34 v1_6 (0 : Int32) (v3_6 - (1 : Int32))).bind fun z46 =>
    match z46 with
    | (O_46) =>
    (fm_putFor fl B_6 O_46 J_6 v1_6 r43 r44 v1_6 r44 r45).bind fun z47 =>
    match z47 with
    | (O_47, J_47) =>
    match B_6 with
    | (br_6, bl_6) =>
    if (v1_6 < 0 ∨ 96 ≤ (v1_6).toNatClampNeg) then none else
    (fm_putAll fl B_6 O_47 v1_6 r45 (bl_6 (v1_6).toNatClampNeg)).bind fun z49 =>
    match z49 with
    | (O_49) =>
    (fm_take fl B_6 O_49 J_47 V_6 v1_6).bind fun z50 =>
    match z50 with
    | (r50, B_50, J_50, V_50) =>
    if (am_bz r50) ≠ 0 then
    (match V_50 with
    | (vf_50, vu_50, vx_50) =>
    lp_fm_toHead_13 fl w G B_50 O_49 J_50 (vf_50, (vu_50 + (1 : Int32)), vx_50) v1_6 v2_6)
    else
    some (B_50, O_49, J_50, V_50))
    else
    some (B_6, O_6, J_6, (vf_6, vu_6, (3 : Int32))))
    else
    some (B_6, O_6, J_6, V_6))
    else
    match G with
    | (gc, gb) =>
    if ((r7 / (10 : Int32)) < 0 ∨ 16 ≤ ((r7 / (10 : Int32))).toNatClampNeg) then none else
    if (gb ((r7 / (10 : Int32))).toNatClampNeg) = 0 then
    (if (0 : Int32) ≠ 0 then
    (match V_6 with
    | (vf_6, vu_6, vx_6) =>
    if vu_6 ≠ vf_6 then
    ((fm_begin O_6).bind fun z56 =>
    match z56 with
    | (O_56) =>
    if (0 : Int32) = 0 then
    ((fm_putAll fl B_6 O_56 v1_6 (0 : Int32) v3_6).bind fun z58 =>
    match z58 with
    | (O_58) =>
    match B_6 with
    | (br_6, bl_6) =>
    if (((80 : Int32) + (r7 / (10 : Int32))) < 0 ∨ 96 ≤ (((80 : Int32) + (r7 / (10 : Int32)))).toNatClampNeg) then none else
    (fm_putAll fl B_6 O_58 ((80 : Int32) + (r7 / (10 : Int32))) (0 : Int32) (bl_6 (((80 : Int32) + (r7 / (10 : Int32)))).toNatClampNeg)).bind fun z60 =>
    match z60 with
    | (O_60) =>
    if (v1_6 < 0 ∨ 96 ≤ (v1_6).toNatClampNeg) then none else
    (fm_putAll fl B_6 O_60 v1_6 (v3_6 + (1 : Int32)) (bl_6 (v1_6).toNatClampNeg)).bind fun z62 =>
    match z62 with
    | (O_62) =>
    (fm_take fl B_6 O_62 J_6 V_6 v1_6).bind fun z63 =>
    match z63 with
    | (r63, B_63, J_63, V_63) =>
    if (am_bz r63) ≠ 0 then
    (match V_63 with
    | (vf_63, vu_63, vx_63) =>
    lp_fm_toHead_13 fl w G B_63 O_62 J_63 (vf_63, (vu_63 + (1 : Int32)), vx_63) v1_6 v2_6)
    else
    some (B_63, O_62, J_63, V_63))
    else
    (fm_endOf fl B_6 v1_6 (v3_6 + (1 : Int32))).bind fun z65 =>
    match z65 with
    | (r65) =>
    (fm_endOf fl B_6 v1_6 r65).bind fun z66 =>
    match z66 with
    | (r66) =>
    (fm_endOf fl B_6 v1_6 r66).bind fun z67 =>
    match z67 with
    | (r67) =>
    (fm_putAll fl B_6 O_56 v1_6 (0 : Int32) (v3_6 - (1 : Int32))).bind fun z68 =>
    match z68 with
    | (O_68) =>
    (fm_putFor fl B_6 O_68 J_6 v1_6 r65 r66 v1_6 r66 r67).bind fun z69 =>
    match z69 with
    | (O_69, J_69) =>
    match B_6 with
    | (br_6, bl_6) =>
    if (v1_6 < 0 ∨ 96 ≤ (v1_6).toNatClampNeg) then none else
    (fm_putAll fl B_6 O_69 v1_6 r67 (bl_6 (v1_6).toNatClampNeg)).bind fun z71 =>
    match z71 with
    | (O_71) =>
    (fm_take fl B_6 O_71 J_69 V_6 v1_6).bind fun z72 =>
    match z72 with
    | (r72, B_72, J_72, V_72) =>
    if (am_bz r72) ≠ 0 then
    (match V_72 with
    | (vf_72, vu_72, vx_72) =>
    lp_fm_toHead_13 fl w G B_72 O_71 J_72 (vf_72, (vu_72 + (1 : Int32)), vx_72) v1_6 v2_6)
    else
    some (B_72, O_71, J_72, V_72))
    else
    some (B_6, O_6, J_6, (vf_6, vu_6, (3 : Int32))))
    else
    if (0 : Int32) ≠ 0 then
    (match V_6 with
    | (vf_6, vu_6, vx_6) =>
    if vu_6 ≠ vf_6 then
    ((fm_begin O_6).bind fun z76 =>
    match z76 with
    | (O_76) =>
    if (0 : Int32) = 0 then
    ((fm_putAll fl B_6 O_76 v1_6 (0 : Int32) v3_6).bind fun z78 =>
    match z78 with
    | (O_78) =>
    match B_6 with
    | (br_6, bl_6) =>
    if (((80 : Int32) + (r7 / (10 : Int32))) < 0 ∨ 96 ≤ (((80 : Int32) + (r7 / (10 : Int32)))).toNatClampNeg) then none else
    (fm_putAll fl B_6 O_78 ((80 : Int32) + (r7 / (10 : Int32))) (0 : Int32) (bl_6 (((80 : Int32) + (r7 / (10 : Int32)))).toNatClampNeg)).bind fun z80 =>
    match z80 with
    | (O_80) =>
    if (v1_6 < 0 ∨ 96 ≤ (v1_6).toNatClampNeg) then none else
    (fm_putAll fl B_6 O_80 v1_6 (v3_6 + (1 : Int32)) (bl_6 (v1_6).toNatClampNeg)).bind fun z82 =>
    match z82 with
    | (O_82) =>
    (fm_take fl B_6 O_82 J_6 V_6 v1_6).bind fun z83 =>
    match z83 with
    | (r83, B_83, J_83, V_83) =>
    if (am_bz r83) ≠ 0 then
    (match V_83 with
    | (vf_83, vu_83, vx_83) =>
    lp_fm_toHead_13 fl w G B_83 O_82 J_83 (vf_83, (vu_83 + (1 : Int32)), vx_83) v1_6 v2_6)
    else
    some (B_83, O_82, J_83, V_83))
    else
    (fm_endOf fl B_6 v1_6 (v3_6 + (1 : Int32))).bind fun z85 =>
    match z85 with
    | (r85) =>
    (fm_endOf fl B_6 v1_6 r85).bind fun z86 =>
    match z86 with
    | (r86) =>
    (fm_endOf fl B_6 v1_6 r86).bind fun z87 =>
    match z87 with
    | (r87) =>
    (fm_putAll fl B_6 O_76 v1_6 (0 : Int32) (v3_6 - (1 : Int32))).bind fun z88 =>
    match z88 with
    | (O_88) =>
    (fm_putFor fl B_6 O_88 J_6 v1_6 r85 r86 v1_6 r86 r87).bind fun z89 =>
    match z89 with
    | (O_89, J_89) =>
    match B_6 with
    | (br_6, bl_6) =>
    if (v1_6 < 0 ∨ 96 ≤ (v1_6).toNatClampNeg) then none else
    (fm_putAll fl B_6 O_89 v1_6 r87 (bl_6 (v1_6).toNatClampNeg)).bind fun z91 =>
    match z91 with
    | (O_91) =>
    (fm_take fl B_6 O_91 J_89 V_6 v1_6).bind fun z92 =>
    match z92 with
    | (r92, B_92, J_92, V_92) =>
    if (am_bz r92) ≠ 0 then
    (match V_92 with
    | (vf_92, vu_92, vx_92) =>
    lp_fm_toHead_13 fl w G B_92 O_91 J_92 (vf_92, (vu_92 + (1 : Int32)), vx_92) v1_6 v2_6)
    else
    some (B_92, O_91, J_92, V_92))
    else
    some (B_6, O_6, J_6, (vf_6, vu_6, (3 : Int32))))
    else
    some (B_6, O_6, J_6, V_6))
    else
    if (0 : Int32) ≠ 0 then
    (match V_6 with
    | (vf_6, vu_6, vx_6) =>
    if vu_6 ≠ vf_6 then
    ((fm_begin O_6).bind fun z96 =>
    match z96 with
    | (O_96) =>
    if (0 : Int32) = 0 then
    ((fm_putAll fl B_6 O_96 v1_6 (0 : Int32) v3_6).bind fun z98 =>
    match z98 with
    | (O_98) =>
    match B_6 with
    | (br_6, bl_6) =>
    if (((80 : Int32) + (r7 / (10 : Int32))) < 0 ∨ 96 ≤ (((80 : Int32) + (r7 / (10 : Int32)))).toNatClampNeg) then none else
    (fm_putAll fl B_6 O_98 ((80 : Int32) + (r7 / (10 : Int32))) (0 : Int32) (bl_6 (((80 : Int32) + (r7 / (10 : Int32)))).toNatClampNeg)).bind fun z100 =>
    match z100 with
    | (O_100) =>
    if (v1_6 < 0 ∨ 96 ≤ (v1_6).toNatClampNeg) then none else
    (fm_putAll fl B_6 O_100 v1_6 (v3_6 + (1 : Int32)) (bl_6 (v1_6).toNatClampNeg)).bind fun z102 =>
    match z102 with
    | (O_102) =>
    (fm_take fl B_6 O_102 J_6 V_6 v1_6).bind fun z103 =>
    match z103 with
    | (r103, B_103, J_103, V_103) =>
    if (am_bz r103) ≠ 0 then
    (match V_103 with
    | (vf_103, vu_103, vx_103) =>
    lp_fm_toHead_13 fl w G B_103 O_102 J_103 (vf_103, (vu_103 + (1 : Int32)), vx_103) v1_6 v2_6)
    else
    some (B_103, O_102, J_103, V_103))
    else
    (fm_endOf fl B_6 v1_6 (v3_6 + (1 : Int32))).bind fun z105 =>
    match z105 with
    | (r105) =>
    (fm_endOf fl B_6 v1_6 r105).bind fun z106 =>
    match z106 with
    | (r106) =>
    (fm_endOf fl B_6 v1_6 r106).bind fun z107 =>
    match z107 with
    | (r107) =>
    (fm_putAll fl B_6 O_96 v1_6 (0 : Int32) (v3_6 - (1 : Int32))).bind fun z108 =>
    match z108 with
    | (O_108) =>
    (fm_putFor fl B_6 O_108 J_6 v1_6 r105 r106 v1_6 r106 r107).bind fun z109 =>
    match z109 with
    | (O_109, J_109) =>
    match B_6 with
    | (br_6, bl_6) =>
    if (v1_6 < 0 ∨ 96 ≤ (v1_6).toNatClampNeg) then none else
    (fm_putAll fl B_6 O_109 v1_6 r107 (bl_6 (v1_6).toNatClampNeg)).bind fun z111 =>
    match z111 with
    | (O_111) =>
    (fm_take fl B_6 O_111 J_109 V_6 v1_6).bind fun z112 =>
    match z112 with
    | (r112, B_112, J_112, V_112) =>
    if (am_bz r112) ≠ 0 then
    (match V_112 with
    | (vf_112, vu_112, vx_112) =>
    lp_fm_toHead_13 fl w G B_112 O_111 J_112 (vf_112, (vu_112 + (1 : Int32)), vx_112) v1_6 v2_6)
    else
    some (B_112, O_111, J_112, V_112))
    else
    some (B_6, O_6, J_6, (vf_6, vu_6, (3 : Int32))))
    else
    if (1 : Int32) ≠ 0 then
    (match V_6 with
    | (vf_6, vu_6, vx_6) =>
    if vu_6 ≠ vf_6 then
    ((fm_begin O_6).bind fun z116 =>
    match z116 with
    | (O_116) =>
    if (0 : Int32) = 0 then
    ((fm_putAll fl B_6 O_116 v1_6 (0 : Int32) v3_6).bind fun z118 =>
    match z118 with
    | (O_118) =>
    match B_6 with
    | (br_6, bl_6) =>
    if (((80 : Int32) + (r7 / (10 : Int32))) < 0 ∨ 96 ≤ (((80 : Int32) + (r7 / (10 : Int32)))).toNatClampNeg) then none else
    (fm_putAll fl B_6 O_118 ((80 : Int32) + (r7 / (10 : Int32))) (0 : Int32) (bl_6 (((80 : Int32) + (r7 / (10 : Int32)))).toNatClampNeg)).bind fun z120 =>
    match z120 with
    | (O_120) =>
    if (v1_6 < 0 ∨ 96 ≤ (v1_6).toNatClampNeg) then none else
    (fm_putAll fl B_6 O_120 v1_6 (v3_6 + (1 : Int32)) (bl_6 (v1_6).toNatClampNeg)).bind fun z122 =>
    match z122 with
    | (O_122) =>
    (fm_take fl B_6 O_122 J_6 V_6 v1_6).bind fun z123 =>
    match z123 with
    | (r123, B_123, J_123, V_123) =>
    if (am_bz r123) ≠ 0 then
    (match V_123 with
    | (vf_123, vu_123, vx_123) =>
    lp_fm_toHead_13 fl w G B_123 O_122 J_123 (vf_123, (vu_123 + (1 : Int32)), vx_123) v1_6 v2_6)
    else
    some (B_123, O_122, J_123, V_123))
    else
    (fm_endOf fl B_6 v1_6 (v3_6 + (1 : Int32))).bind fun z125 =>
    match z125 with
    | (r125) =>
    (fm_endOf fl B_6 v1_6 r125).bind fun z126 =>
    match z126 with
    | (r126) =>
    (fm_endOf fl B_6 v1_6 r126).bind fun z127 =>
    match z127 with
    | (r127) =>
    (fm_putAll fl B_6 O_116 v1_6 (0 : Int32) (v3_6 - (1 : Int32))).bind fun z128 =>
    match z128 with
    | (O_128) =>
    (fm_putFor fl B_6 O_128 J_6 v1_6 r125 r126 v1_6 r126 r127).bind fun z129 =>
    match z129 with
    | (O_129, J_129) =>
    match B_6 with
    | (br_6, bl_6) =>
    if (v1_6 < 0 ∨ 96 ≤ (v1_6).toNatClampNeg) then none else
    (fm_putAll fl B_6 O_129 v1_6 r127 (bl_6 (v1_6).toNatClampNeg)).bind fun z131 =>
    match z131 with
    | (O_131) =>
    (fm_take fl B_6 O_131 J_129 V_6 v1_6).bind fun z132 =>
    match z132 with
    | (r132, B_132, J_132, V_132) =>
    if (am_bz r132) ≠ 0 then
    (match V_132 with
    | (vf_132, vu_132, vx_132) =>
    lp_fm_toHead_13 fl w G B_132 O_131 J_132 (vf_132, (vu_132 + (1 : Int32)), vx_132) v1_6 v2_6)
    else
    some (B_132, O_131, J_132, V_132))
    else
    some (B_6, O_6, J_6, (vf_6, vu_6, (3 : Int32))))
    else
    some (B_6, O_6, J_6, V_6))
    else
    if v3_6 ≤ 0 then
    ((fm_kindOf r7).bind fun z135 =>
    match z135 with
    | (r135) =>
    if r135 ≠ (5 : Int32) then
    (if (0 : Int32) ≠ 0 then
    (match V_6 with
    | (vf_6, vu_6, vx_6) =>
    if vu_6 ≠ vf_6 then
    ((fm_begin O_6).bind fun z139 =>
    match z139 with
    | (O_139) =>
    if (0 : Int32) = 0 then
    ((fm_putAll fl B_6 O_139 v1_6 (0 : Int32) v3_6).bind fun z141 =>
    match z141 with
    | (O_141) =>
    match B_6 with
    | (br_6, bl_6) =>
    if (((80 : Int32) + (r7 / (10 : Int32))) < 0 ∨ 96 ≤ (((80 : Int32) + (r7 / (10 : Int32)))).toNatClampNeg) then none else
    (fm_putAll fl B_6 O_141 ((80 : Int32) + (r7 / (10 : Int32))) (0 : Int32) (bl_6 (((80 : Int32) + (r7 / (10 : Int32)))).toNatClampNeg)).bind fun z143 =>
    match z143 with
    | (O_143) =>
    if (v1_6 < 0 ∨ 96 ≤ (v1_6).toNatClampNeg) then none else
    (fm_putAll fl B_6 O_143 v1_6 (v3_6 + (1 : Int32)) (bl_6 (v1_6).toNatClampNeg)).bind fun z145 =>
    match z145 with
    | (O_145) =>
    (fm_take fl B_6 O_145 J_6 V_6 v1_6).bind fun z146 =>
    match z146 with
    | (r146, B_146, J_146, V_146) =>
    if (am_bz r146) ≠ 0 then
    (match V_146 with
    | (vf_146, vu_146, vx_146) =>
    lp_fm_toHead_13 fl w G B_146 O_145 J_146 (vf_146, (vu_146 + (1 : Int32)), vx_146) v1_6 v2_6)
    else
    some (B_146, O_145, J_146, V_146))
    else
    (fm_endOf fl B_6 v1_6 (v3_6 + (1 : Int32))).bind fun z148 =>
    match z148 with
    | (r148) =>
    (fm_endOf fl B_6 v1_6 r148).bind fun z149 =>
    match z149 with
    | (r149) =>
    (fm_endOf fl B_6 v1_6 r149).bind fun z150 =>
    match z150 with
    | (r150) =>
    (fm_putAll fl B_6 O_139 v1_6 (0 : Int32) (v3_6 - (1 : Int32))).bind fun z151 =>
    match z151 with
    | (O_151) =>
    (fm_putFor fl B_6 O_151 J_6 v1_6 r148 r149 v1_6 r149 r150).bind fun z152 =>
    match z152 with
    | (O_152, J_152) =>
    match B_6 with
    | (br_6, bl_6) =>
    if (v1_6 < 0 ∨ 96 ≤ (v1_6).toNatClampNeg) then none else
    (fm_putAll fl B_6 O_152 v1_6 r150 (bl_6 (v1_6).toNatClampNeg)).bind fun z154 =>
    match z154 with
    | (O_154) =>
    (fm_take fl B_6 O_154 J_152 V_6 v1_6).bind fun z155 =>
    match z155 with
    | (r155, B_155, J_155, V_155) =>
    if (am_bz r155) ≠ 0 then
    (match V_155 with
    | (vf_155, vu_155, vx_155) =>
    lp_fm_toHead_13 fl w G B_155 O_154 J_155 (vf_155, (vu_155 + (1 : Int32)), vx_155) v1_6 v2_6)
    else
    some (B_155, O_154, J_155, V_155))
    else
    some (B_6, O_6, J_6, (vf_6, vu_6, (3 : Int32))))
    else
    if (0 : Int32) ≠ 0 then
    (match V_6 with
    | (vf_6, vu_6, vx_6) =>
    if vu_6 ≠ vf_6 then
    ((fm_begin O_6).bind fun z159 =>
    match z159 with
    | (O_159) =>
    if (0 : Int32) = 0 then
    ((fm_putAll fl B_6 O_159 v1_6 (0 : Int32) v3_6).bind fun z161 =>
    match z161 with
    | (O_161) =>
    match B_6 with
    | (br_6, bl_6) =>
    if (((80 : Int32) + (r7 / (10 : Int32))) < 0 ∨ 96 ≤ (((80 : Int32) + (r7 / (10 : Int32)))).toNatClampNeg) then none else
    (fm_putAll fl B_6 O_161 ((80 : Int32) + (r7 / (10 : Int32))) (0 : Int32) (bl_6 (((80 : Int32) + (r7 / (10 : Int32)))).toNatClampNeg)).bind fun z163 =>
    match z163 with
    | (O_163) =>
    if (v1_6 < 0 ∨ 96 ≤ (v1_6).toNatClampNeg) then none else
    (fm_putAll fl B_6 O_163 v1_6 (v3_6 + (1 : Int32)) (bl_6 (v1_6).toNatClampNeg)).bind fun z165 =>
    match z165 with
    | (O_165) =>
    (fm_take fl B_6 O_165 J_6 V_6 v1_6).bind fun z166 =>
    match z166 with
    | (r166, B_166, J_166, V_166) =>
    if (am_bz r166) ≠ 0 then
    (match V_166 with
    | (vf_166, vu_166, vx_166) =>
    lp_fm_toHead_13 fl w G B_166 O_165 J_166 (vf_166, (vu_166 + (1 : Int32)), vx_166) v1_6 v2_6)
    else
    some (B_166, O_165, J_166, V_166))
    else
    (fm_endOf fl B_6 v1_6 (v3_6 + (1 : Int32))).bind fun z168 =>
    match z168 with
    | (r168) =>
    (fm_endOf fl B_6 v1_6 r168).bind fun z169 =>
    match z169 with
    | (r169) =>
    (fm_endOf fl B_6 v1_6 r169).bind fun z170 =>
    match z170 with
    | (r170) =>
    (fm_putAll fl B_6 O_159 v1_6 (0 : Int32) (v3_6 - (1 : Int32))).bind fun z171 =>
    match z171 with
    | (O_171) =>
    (fm_putFor fl B_6 O_171 J_6 v1_6 r168 r169 v1_6 r169 r170).bind fun z172 =>
    match z172 with
    | (O_172, J_172) =>
    match B_6 with
    | (br_6, bl_6) =>
    if (v1_6 < 0 ∨ 96 ≤ (v1_6).toNatClampNeg) then none else
    (fm_putAll fl B_6 O_172 v1_6 r170 (bl_6 (v1_6).toNatClampNeg)).bind fun z174 =>
    match z174 with
    | (O_174) =>
    (fm_take fl B_6 O_174 J_172 V_6 v1_6).bind fun z175 =>
    match z175 with
    | (r175, B_175, J_175, V_175) =>
    if (am_bz r175) ≠ 0 then
    (match V_175 with
    | (vf_175, vu_175, vx_175) =>
    lp_fm_toHead_13 fl w G B_175 O_174 J_175 (vf_175, (vu_175 + (1 : Int32)), vx_175) v1_6 v2_6)
    else
    some (B_175, O_174, J_175, V_175))
    else
    some (B_6, O_6, J_6, (vf_6, vu_6, (3 : Int32))))
    else
    some (B_6, O_6, J_6, V_6))
    else
    match G with
    | (gc, gb) =>
    if ((r7 / (10 : Int32)) < 0 ∨ 16 ≤ ((r7 / (10 : Int32))).toNatClampNeg) then none else
    if (gb ((r7 / (10 : Int32))).toNatClampNeg) = 0 then
    (if (0 : Int32) ≠ 0 then
    (match V_6 with
    | (vf_6, vu_6, vx_6) =>
    if vu_6 ≠ vf_6 then
    ((fm_begin O_6).bind fun z181 =>
    match z181 with
    | (O_181) =>
    if (0 : Int32) = 0 then
    ((fm_putAll fl B_6 O_181 v1_6 (0 : Int32) v3_6).bind fun z183 =>
    match z183 with
    | (O_183) =>
    match B_6 with
    | (br_6, bl_6) =>
    if (((80 : Int32) + (r7 / (10 : Int32))) < 0 ∨ 96 ≤ (((80 : Int32) + (r7 / (10 : Int32)))).toNatClampNeg) then none else
    (fm_putAll fl B_6 O_183 ((80 : Int32) + (r7 / (10 : Int32))) (0 : Int32) (bl_6 (((80 : Int32) + (r7 / (10 : Int32)))).toNatClampNeg)).bind fun z185 =>
    match z185 with
    | (O_185) =>
    if (v1_6 < 0 ∨ 96 ≤ (v1_6).toNatClampNeg) then none else
    (fm_putAll fl B_6 O_185 v1_6 (v3_6 + (1 : Int32)) (bl_6 (v1_6).toNatClampNeg)).bind fun z187 =>
    match z187 with
    | (O_187) =>
    (fm_take fl B_6 O_187 J_6 V_6 v1_6).bind fun z188 =>
    match z188 with
    | (r188, B_188, J_188, V_188) =>
    if (am_bz r188) ≠ 0 then
    (match V_188 with
    | (vf_188, vu_188, vx_188) =>
    lp_fm_toHead_13 fl w G B_188 O_187 J_188 (vf_188, (vu_188 + (1 : Int32)), vx_188) v1_6 v2_6)
    else
    some (B_188, O_187, J_188, V_188))
    else
    (fm_endOf fl B_6 v1_6 (v3_6 + (1 : Int32))).bind fun z190 =>
    match z190 with
    | (r190) =>
    (fm_endOf fl B_6 v1_6 r190).bind fun z191 =>
    match z191 with
    | (r191) =>
    (fm_endOf fl B_6 v1_6 r191).bind fun z192 =>
    match z192 with
    | (r192) =>
    (fm_putAll fl B_6 O_181 v1_6 (0 : Int32) (v3_6 - (1 : Int32))).bind fun z193 =>
    match z193 with
    | (O_193) =>
    (fm_putFor fl B_6 O_193 J_6 v1_6 r190 r191 v1_6 r191 r192).bind fun z194 =>
    match z194 with
    | (O_194, J_194) =>
    match B_6 with
    | (br_6, bl_6) =>
    if (v1_6 < 0 ∨ 96 ≤ (v1_6).toNatClampNeg) then none else
    (fm_putAll fl B_6 O_194 v1_6 r192 (bl_6 (v1_6).toNatClampNeg)).bind fun z196 =>
    match z196 with
    | (O_196) =>
    (fm_take fl B_6 O_196 J_194 V_6 v1_6).bind fun z197 =>
    match z197 with
    | (r197, B_197, J_197, V_197) =>
    if (am_bz r197) ≠ 0 then
    (match V_197 with
    | (vf_197, vu_197, vx_197) =>
    lp_fm_toHead_13 fl w G B_197 O_196 J_197 (vf_197, (vu_197 + (1 : Int32)), vx_197) v1_6 v2_6)
    else
    some (B_197, O_196, J_197, V_197))
    else
    some (B_6, O_6, J_6, (vf_6, vu_6, (3 : Int32))))
    else
    if (0 : Int32) ≠ 0 then
    (match V_6 with
    | (vf_6, vu_6, vx_6) =>
    if vu_6 ≠ vf_6 then
    ((fm_begin O_6).bind fun z201 =>
    match z201 with
    | (O_201) =>
    if (0 : Int32) = 0 then
    ((fm_putAll fl B_6 O_201 v1_6 (0 : Int32) v3_6).bind fun z203 =>
    match z203 with
    | (O_203) =>
    match B_6 with
    | (br_6, bl_6) =>
    if (((80 : Int32) + (r7 / (10 : Int32))) < 0 ∨ 96 ≤ (((80 : Int32) + (r7 / (10 : Int32)))).toNatClampNeg) then none else
    (fm_putAll fl B_6 O_203 ((80 : Int32) + (r7 / (10 : Int32))) (0 : Int32) (bl_6 (((80 : Int32) + (r7 / (10 : Int32)))).toNatClampNeg)).bind fun z205 =>
    match z205 with
    | (O_205) =>
    if (v1_6 < 0 ∨ 96 ≤ (v1_6).toNatClampNeg) then none else
    (fm_putAll fl B_6 O_205 v1_6 (v3_6 + (1 : Int32)) (bl_6 (v1_6).toNatClampNeg)).bind fun z207 =>
    match z207 with
    | (O_207) =>
    (fm_take fl B_6 O_207 J_6 V_6 v1_6).bind fun z208 =>
    match z208 with
    | (r208, B_208, J_208, V_208) =>
    if (am_bz r208) ≠ 0 then
    (match V_208 with
    | (vf_208, vu_208, vx_208) =>
    lp_fm_toHead_13 fl w G B_208 O_207 J_208 (vf_208, (vu_208 + (1 : Int32)), vx_208) v1_6 v2_6)
    else
    some (B_208, O_207, J_208, V_208))
    else
    (fm_endOf fl B_6 v1_6 (v3_6 + (1 : Int32))).bind fun z210 =>
    match z210 with
    | (r210) =>
    (fm_endOf fl B_6 v1_6 r210).bind fun z211 =>
    match z211 with
    | (r211) =>
    (fm_endOf fl B_6 v1_6 r211).bind fun z212 =>
    match z212 with
    | (r212) =>
    (fm_putAll fl B_6 O_201 v1_6 (0 : Int32) (v3_6 - (1 : Int32))).bind fun z213 =>
    match z213 with
    | (O_213) =>
    (fm_putFor fl B_6 O_213 J_6 v1_6 r210 r211 v1_6 r211 r212).bind fun z214 =>
    match z214 with
    | (O_214, J_214) =>
    match B_6 with
    | (br_6, bl_6) =>
    if (v1_6 < 0 ∨ 96 ≤ (v1_6).toNatClampNeg) then none else
    (fm_putAll fl B_6 O_214 v1_6 r212 (bl_6 (v1_6).toNatClampNeg)).bind fun z216 =>
    match z216 with
    | (O_216) =>
    (fm_take fl B_6 O_216 J_214 V_6 v1_6).bind fun z217 =>
    match z217 with
    | (r217, B_217, J_217, V_217) =>
    if (am_bz r217) ≠ 0 then
    (match V_217 with
    | (vf_217, vu_217, vx_217) =>
    lp_fm_toHead_13 fl w G B_217 O_216 J_217 (vf_217, (vu_217 + (1 : Int32)), vx_217) v1_6 v2_6)
    else
    some (B_217, O_216, J_217, V_217))
    else
    some (B_6, O_6, J_6, (vf_6, vu_6, (3 : Int32))))
    else
    some (B_6, O_6, J_6, V_6))
    else
    if (0 : Int32) ≠ 0 then
    (match V_6 with
    | (vf_6, vu_6, vx_6) =>
    if vu_6 ≠ vf_6 then
    ((fm_begin O_6).bind fun z221 =>
    match z221 with
    | (O_221) =>
    if (0 : Int32) = 0 then
    ((fm_putAll fl B_6 O_221 v1_6 (0 : Int32) v3_6).bind fun z223 =>
    match z223 with
    | (O_223) =>
    match B_6 with
    | (br_6, bl_6) =>
    if (((80 : Int32) + (r7 / (10 : Int32))) < 0 ∨ 96 ≤ (((80 : Int32) + (r7 / (10 : Int32)))).toNatClampNeg) then none else
    (fm_putAll fl B_6 O_223 ((80 : Int32) + (r7 / (10 : Int32))) (0 : Int32) (bl_6 (((80 : Int32) + (r7 / (10 : Int32)))).toNatClampNeg)).bind fun z225 =>
    match z225 with
    | (O_225) =>
    if (v1_6 < 0 ∨ 96 ≤ (v1_6).toNatClampNeg) then none else
    (fm_putAll fl B_6 O_225 v1_6 (v3_6 + (1 : Int32)) (bl_6 (v1_6).toNatClampNeg)).bind fun z227 =>
    match z227 with
    | (O_227) =>
    (fm_take fl B_6 O_227 J_6 V_6 v1_6).bind fun z228 =>
    match z228 with
    | (r228, B_228, J_228, V_228) =>
    if (am_bz r228) ≠ 0 then
    (match V_228 with
    | (vf_228, vu_228, vx_228) =>
    lp_fm_toHead_13 fl w G B_228 O_227 J_228 (vf_228, (vu_228 + (1 : Int32)), vx_228) v1_6 v2_6)
    else
    some (B_228, O_227, J_228, V_228))
    else
    (fm_endOf fl B_6 v1_6 (v3_6 + (1 : Int32))).bind fun z230 =>
    match z230 with
    | (r230) =>
    (fm_endOf fl B_6 v1_6 r230).bind fun z231 =>
    match z231 with
    | (r231) =>
    (fm_endOf fl B_6 v1_6 r231).bind fun z232 =>
    match z232 with
    | (r232) =>
    (fm_putAll fl B_6 O_221 v1_6 (0 : Int32) (v3_6 - (1 : Int32))).bind fun z233 =>
    match z233 with
    | (O_233) =>
    (fm_putFor fl B_6 O_233 J_6 v1_6 r230 r231 v1_6 r231 r232).bind fun z234 =>
    match z234 with
    | (O_234, J_234) =>
    match B_6 with
    | (br_6, bl_6) =>
    if (v1_6 < 0 ∨ 96 ≤ (v1_6).toNatClampNeg) then none else
    (fm_putAll fl B_6 O_234 v1_6 r232 (bl_6 (v1_6).toNatClampNeg)).bind fun z236 =>
    match z236 with
    | (O_236) =>
    (fm_take fl B_6 O_236 J_234 V_6 v1_6).bind fun z237 =>
    match z237 with
    | (r237, B_237, J_237, V_237) =>
    if (am_bz r237) ≠ 0 then
    (match V_237 with
    | (vf_237, vu_237, vx_237) =>
    lp_fm_toHead_13 fl w G B_237 O_236 J_237 (vf_237, (vu_237 + (1 : Int32)), vx_237) v1_6 v2_6)
    else
    some (B_237, O_236, J_237, V_237))
    else
    some (B_6, O_6, J_6, (vf_6, vu_6, (3 : Int32))))
    else
    if (1 : Int32) ≠ 0 then
    (match V_6 with
    | (vf_6, vu_6, vx_6) =>
    if vu_6 ≠ vf_6 then
    ((fm_begin O_6).bind fun z241 =>
    match z241 with
    | (O_241) =>
    if (0 : Int32) = 0 then
    ((fm_putAll fl B_6 O_241 v1_6 (0 : Int32) v3_6).bind fun z243 =>
    match z243 with
    | (O_243) =>
    match B_6 with
    | (br_6, bl_6) =>
    if (((80 : Int32) + (r7 / (10 : Int32))) < 0 ∨ 96 ≤ (((80 : Int32) + (r7 / (10 : Int32)))).toNatClampNeg) then none else
    (fm_putAll fl B_6 O_243 ((80 : Int32) + (r7 / (10 : Int32))) (0 : Int32) (bl_6 (((80 : Int32) + (r7 / (10 : Int32)))).toNatClampNeg)).bind fun z245 =>
    match z245 with
    | (O_245) =>
    if (v1_6 < 0 ∨ 96 ≤ (v1_6).toNatClampNeg) then none else
    (fm_putAll fl B_6 O_245 v1_6 (v3_6 + (1 : Int32)) (bl_6 (v1_6).toNatClampNeg)).bind fun z247 =>
    match z247 with
    | (O_247) =>
    (fm_take fl B_6 O_247 J_6 V_6 v1_6).bind fun z248 =>
    match z248 with
    | (r248, B_248, J_248, V_248) =>
    if (am_bz r248) ≠ 0 then
    (match V_248 with
    | (vf_248, vu_248, vx_248) =>
    lp_fm_toHead_13 fl w G B_248 O_247 J_248 (vf_248, (vu_248 + (1 : Int32)), vx_248) v1_6 v2_6)
    else
    some (B_248, O_247, J_248, V_248))
    else
    (fm_endOf fl B_6 v1_6 (v3_6 + (1 : Int32))).bind fun z250 =>
    match z250 with
    | (r250) =>
    (fm_endOf fl B_6 v1_6 r250).bind fun z251 =>
    match z251 with
    | (r251) =>
    (fm_endOf fl B_6 v1_6 r251).bind fun z252 =>
    match z252 with
    | (r252) =>
    (fm_putAll fl B_6 O_241 v1_6 (0 : Int32) (v3_6 - (1 : Int32))).bind fun z253 =>
    match z253 with
    | (O_253) =>
    (fm_putFor fl B_6 O_253 J_6 v1_6 r250 r251 v1_6 r251 r252).bind fun z254 =>
    match z254 with
    | (O_254, J_254) =>
    match B_6 with
    | (br_6, bl_6) =>
    if (v1_6 < 0 ∨ 96 ≤ (v1_6).toNatClampNeg) then none else
    (fm_putAll fl B_6 O_254 v1_6 r252 (bl_6 (v1_6).toNatClampNeg)).bind fun z256 =>
    match z256 with
    | (O_256) =>
    (fm_take fl B_6 O_256 J_254 V_6 v1_6).bind fun z257 =>
    match z257 with
    | (r257, B_257, J_257, V_257) =>
    if (am_bz r257) ≠ 0 then
    (match V_257 with
    | (vf_257, vu_257, vx_257) =>
    lp_fm_toHead_13 fl w G B_257 O_256 J_257 (vf_257, (vu_257 + (1 : Int32)), vx_257) v1_6 v2_6)
    else
    some (B_257, O_256, J_257, V_257))
    else
    some (B_6, O_6, J_6, (vf_6, vu_6, (3 : Int32))))
    else
    some (B_6, O_6, J_6, V_6))
    else
    (fm_kindOf r7).bind fun z259 =>
    match z259 with
    | (r259) =>
    if r259 ≠ (5 : Int32) then
    (if (1 : Int32) ≠ 0 then
    (match V_6 with
    | (vf_6, vu_6, vx_6) =>
    if vu_6 ≠ vf_6 then
    ((fm_begin O_6).bind fun z263 =>
    match z263 with
    | (O_263) =>
    if (1 : Int32) = 0 then
    ((fm_putAll fl B_6 O_263 v1_6 (0 : Int32) v3_6).bind fun z265 =>
    match z265 with
    | (O_265) =>
    match B_6 with
    | (br_6, bl_6) =>
    if (((80 : Int32) + (r7 / (10 : Int32))) < 0 ∨ 96 ≤ (((80 : Int32) + (r7 / (10 : Int32)))).toNatClampNeg) then none else
    (fm_putAll fl B_6 O_265 ((80 : Int32) + (r7 / (10 : Int32))) (0 : Int32) (bl_6 (((80 : Int32) + (r7 / (10 : Int32)))).toNatClampNeg)).bind fun z267 =>
    match z267 with
    | (O_267) =>
    if (v1_6 < 0 ∨ 96 ≤ (v1_6).toNatClampNeg) then none else
    (fm_putAll fl B_6 O_267 v1_6 (v3_6 + (1 : Int32)) (bl_6 (v1_6).toNatClampNeg)).bind fun z269 =>
    match z269 with
    | (O_269) =>
    (fm_take fl B_6 O_269 J_6 V_6 v1_6).bind fun z270 =>
    match z270 with
    | (r270, B_270, J_270, V_270) =>
    if (am_bz r270) ≠ 0 then
    (match V_270 with
    | (vf_270, vu_270, vx_270) =>
    lp_fm_toHead_13 fl w G B_270 O_269 J_270 (vf_270, (vu_270 + (1 : Int32)), vx_270) v1_6 v2_6)
    else
    some (B_270, O_269, J_270, V_270))
    else
    (fm_endOf fl B_6 v1_6 (v3_6 + (1 : Int32))).bind fun z272 =>
    match z272 with
    | (r272) =>
    (fm_endOf fl B_6 v1_6 r272).bind fun z273 =>
    match z273 with
    | (r273) =>
    (fm_endOf fl B_6 v1_6 r273).bind fun z274 =>
    match z274 with
    | (r274) =>
    (fm_putAll fl B_6 O_263 v1_6 (0 : Int32) (v3_6 - (1 : Int32))).bind fun z275 =>
    match z275 with
    | (O_275) =>
    (fm_putFor fl B_6 O_275 J_6 v1_6 r272 r273 v1_6 r273 r274).bind fun z276 =>
    match z276 with
    | (O_276, J_276) =>
    match B_6 with
    | (br_6, bl_6) =>
    if (v1_6 < 0 ∨ 96 ≤ (v1_6).toNatClampNeg) then none else
    (fm_putAll fl B_6 O_276 v1_6 r274 (bl_6 (v1_6).toNatClampNeg)).bind fun z278 =>
    match z278 with
    | (O_278) =>
    (fm_take fl B_6 O_278 J_276 V_6 v1_6).bind fun z279 =>
    match z279 with
    | (r279, B_279, J_279, V_279) =>
    if (am_bz r279) ≠ 0 then
    (match V_279 with
    | (vf_279, vu_279, vx_279) =>
    lp_fm_toHead_13 fl w G B_279 O_278 J_279 (vf_279, (vu_279 + (1 : Int32)), vx_279) v1_6 v2_6)
    else
    some (B_279, O_278, J_279, V_279))
    else
    some (B_6, O_6, J_6, (vf_6, vu_6, (3 : Int32))))
    else
    if (0 : Int32) ≠ 0 then
    (match V_6 with
    | (vf_6, vu_6, vx_6) =>
    if vu_6 ≠ vf_6 then
    ((fm_begin O_6).bind fun z283 =>
    match z283 with
    | (O_283) =>
    if (1 : Int32) = 0 then
    ((fm_putAll fl B_6 O_283 v1_6 (0 : Int32) v3_6).bind fun z285 =>
    match z285 with
    | (O_285) =>
    match B_6 with
    | (br_6, bl_6) =>
    if (((80 : Int32) + (r7 / (10 : Int32))) < 0 ∨ 96 ≤ (((80 : Int32) + (r7 / (10 : Int32)))).toNatClampNeg) then none else
    (fm_putAll fl B_6 O_285 ((80 : Int32) + (r7 / (10 : Int32))) (0 : Int32) (bl_6 (((80 : Int32) + (r7 / (10 : Int32)))).toNatClampNeg)).bind fun z287 =>
    match z287 with
    | (O_287) =>
    if (v1_6 < 0 ∨ 96 ≤ (v1_6).toNatClampNeg) then none else
    (fm_putAll fl B_6 O_287 v1_6 (v3_6 + (1 : Int32)) (bl_6 (v1_6).toNatClampNeg)).bind fun z289 =>
    match z289 with
    | (O_289) =>
    (fm_take fl B_6 O_289 J_6 V_6 v1_6).bind fun z290 =>
    match z290 with
    | (r290, B_290, J_290, V_290) =>
    if (am_bz r290) ≠ 0 then
    (match V_290 with
    | (vf_290, vu_290, vx_290) =>
    lp_fm_toHead_13 fl w G B_290 O_289 J_290 (vf_290, (vu_290 + (1 : Int32)), vx_290) v1_6 v2_6)
    else
    some (B_290, O_289, J_290, V_290))
    else
    (fm_endOf fl B_6 v1_6 (v3_6 + (1 : Int32))).bind fun z292 =>
    match z292 with
    | (r292) =>
    (fm_endOf fl B_6 v1_6 r292).bind fun z293 =>
    match z293 with
    | (r293) =>
    (fm_endOf fl B_6 v1_6 r293).bind fun z294 =>
    match z294 with
    | (r294) =>
    (fm_putAll fl B_6 O_283 v1_6 (0 : Int32) (v3_6 - (1 : Int32))).bind fun z295 =>
    match z295 with
    | (O_295) =>
    (fm_putFor fl B_6 O_295 J_6 v1_6 r292 r293 v1_6 r293 r294).bind fun z296 =>
    match z296 with
    | (O_296, J_296) =>
    match B_6 with
    | (br_6, bl_6) =>
    if (v1_6 < 0 ∨ 96 ≤ (v1_6).toNatClampNeg) then none else
    (fm_putAll fl B_6 O_296 v1_6 r294 (bl_6 (v1_6).toNatClampNeg)).bind fun z298 =>
    match z298 with
    | (O_298) =>
    (fm_take fl B_6 O_298 J_296 V_6 v1_6).bind fun z299 =>
    match z299 with
    | (r299, B_299, J_299, V_299) =>
    if (am_bz r299) ≠ 0 then
    (match V_299 with
    | (vf_299, vu_299, vx_299) =>
    lp_fm_toHead_13 fl w G B_299 O_298 J_299 (vf_299, (vu_299 + (1 : Int32)), vx_299) v1_6 v2_6)
    else
    some (B_299, O_298, J_299, V_299))
    else
    some (B_6, O_6, J_6, (vf_6, vu_6, (3 : Int32))))
    else
    some (B_6, O_6, J_6, V_6))
    else
    match G with
    | (gc, gb) =>
    if ((r7 / (10 : Int32)) < 0 ∨ 16 ≤ ((r7 / (10 : Int32))).toNatClampNeg) then none else
    if (gb ((r7 / (10 : Int32))).toNatClampNeg) = 0 then
    (if (1 : Int32) ≠ 0 then
    (match V_6 with
    | (vf_6, vu_6, vx_6) =>
    if vu_6 ≠ vf_6 then
    ((fm_begin O_6).bind fun z305 =>
    match z305 with
    | (O_305) =>
    if (1 : Int32) = 0 then
    ((fm_putAll fl B_6 O_305 v1_6 (0 : Int32) v3_6).bind fun z307 =>
    match z307 with
    | (O_307) =>
    match B_6 with
    | (br_6, bl_6) =>
    if (((80 : Int32) + (r7 / (10 : Int32))) < 0 ∨ 96 ≤ (((80 : Int32) + (r7 / (10 : Int32)))).toNatClampNeg) then none else
    (fm_putAll fl B_6 O_307 ((80 : Int32) + (r7 / (10 : Int32))) (0 : Int32) (bl_6 (((80 : Int32) + (r7 / (10 : Int32)))).toNatClampNeg)).bind fun z309 =>
    match z309 with
    | (O_309) =>
    if (v1_6 < 0 ∨ 96 ≤ (v1_6).toNatClampNeg) then none else
    (fm_putAll fl B_6 O_309 v1_6 (v3_6 + (1 : Int32)) (bl_6 (v1_6).toNatClampNeg)).bind fun z311 =>
    match z311 with
    | (O_311) =>
    (fm_take fl B_6 O_311 J_6 V_6 v1_6).bind fun z312 =>
    match z312 with
    | (r312, B_312, J_312, V_312) =>
    if (am_bz r312) ≠ 0 then
    (match V_312 with
    | (vf_312, vu_312, vx_312) =>
    lp_fm_toHead_13 fl w G B_312 O_311 J_312 (vf_312, (vu_312 + (1 : Int32)), vx_312) v1_6 v2_6)
    else
    some (B_312, O_311, J_312, V_312))
    else
    (fm_endOf fl B_6 v1_6 (v3_6 + (1 : Int32))).bind fun z314 =>
    match z314 with
    | (r314) =>
    (fm_endOf fl B_6 v1_6 r314).bind fun z315 =>
    match z315 with
    | (r315) =>
    (fm_endOf fl B_6 v1_6 r315).bind fun z316 =>
    match z316 with
    | (r316) =>
    (fm_putAll fl B_6 O_305 v1_6 (0 : Int32) (v3_6 - (1 : Int32))).bind fun z317 =>
    match z317 with
    | (O_317) =>
    (fm_putFor fl B_6 O_317 J_6 v1_6 r314 r315 v1_6 r315 r316).bind fun z318 =>
    match z318 with
    | (O_318, J_318) =>
    match B_6 with
    | (br_6, bl_6) =>
    if (v1_6 < 0 ∨ 96 ≤ (v1_6).toNatClampNeg) then none else
    (fm_putAll fl B_6 O_318 v1_6 r316 (bl_6 (v1_6).toNatClampNeg)).bind fun z320 =>
    match z320 with
    | (O_320) =>
    (fm_take fl B_6 O_320 J_318 V_6 v1_6).bind fun z321 =>
    match z321 with
    | (r321, B_321, J_321, V_321) =>
    if (am_bz r321) ≠ 0 then
    (match V_321 with
    | (vf_321, vu_321, vx_321) =>
    lp_fm_toHead_13 fl w G B_321 O_320 J_321 (vf_321, (vu_321 + (1 : Int32)), vx_321) v1_6 v2_6)
    else
    some (B_321, O_320, J_321, V_321))
    else
    some (B_6, O_6, J_6, (vf_6, vu_6, (3 : Int32))))
    else
    if (0 : Int32) ≠ 0 then
    (match V_6 with
    | (vf_6, vu_6, vx_6) =>
    if vu_6 ≠ vf_6 then
    ((fm_begin O_6).bind fun z325 =>
    match z325 with
    | (O_325) =>
    if (1 : Int32) = 0 then
    ((fm_putAll fl B_6 O_325 v1_6 (0 : Int32) v3_6).bind fun z327 =>
    match z327 with
    | (O_327) =>
    match B_6 with
    | (br_6, bl_6) =>
    if (((80 : Int32) + (r7 / (10 : Int32))) < 0 ∨ 96 ≤ (((80 : Int32) + (r7 / (10 : Int32)))).toNatClampNeg) then none else
    (fm_putAll fl B_6 O_327 ((80 : Int32) + (r7 / (10 : Int32))) (0 : Int32) (bl_6 (((80 : Int32) + (r7 / (10 : Int32)))).toNatClampNeg)).bind fun z329 =>
    match z329 with
    | (O_329) =>
    if (v1_6 < 0 ∨ 96 ≤ (v1_6).toNatClampNeg) then none else
    (fm_putAll fl B_6 O_329 v1_6 (v3_6 + (1 : Int32)) (bl_6 (v1_6).toNatClampNeg)).bind fun z331 =>
    match z331 with
    | (O_331) =>
    (fm_take fl B_6 O_331 J_6 V_6 v1_6).bind fun z332 =>
    match z332 with
    | (r332, B_332, J_332, V_332) =>
    if (am_bz r332) ≠ 0 then
    (match V_332 with
    | (vf_332, vu_332, vx_332) =>
    lp_fm_toHead_13 fl w G B_332 O_331 J_332 (vf_332, (vu_332 + (1 : Int32)), vx_332) v1_6 v2_6)
    else
    some (B_332, O_331, J_332, V_332))
    else
    (fm_endOf fl B_6 v1_6 (v3_6 + (1 : Int32))).bind fun z334 =>
    match z334 with
    | (r334) =>
    (fm_endOf fl B_6 v1_6 r334).bind fun z335 =>
    match z335 with
    | (r335) =>
    (fm_endOf fl B_6 v1_6 r335).bind fun z336 =>
    match z336 with
    | (r336) =>
    (fm_putAll fl B_6 O_325 v1_6 (0 : Int32) (v3_6 - (1 : Int32))).bind fun z337 =>
    match z337 with
    | (O_337) =>
    (fm_putFor fl B_6 O_337 J_6 v1_6 r334 r335 v1_6 r335 r336).bind fun z338 =>
    match z338 with
    | (O_338, J_338) =>
    match B_6 with
    | (br_6, bl_6) =>
    if (v1_6 < 0 ∨ 96 ≤ (v1_6).toNatClampNeg) then none else
    (fm_putAll fl B_6 O_338 v1_6 r336 (bl_6 (v1_6).toNatClampNeg)).bind fun z340 =>
    match z340 with
    | (O_340) =>
    (fm_take fl B_6 O_340 J_338 V_6 v1_6).bind fun z341 =>
    match z341 with
    | (r341, B_341, J_341, V_341) =>
    if (am_bz r341) ≠ 0 then
    (match V_341 with
    | (vf_341, vu_341, vx_341) =>
    lp_fm_toHead_13 fl w G B_341 O_340 J_341 (vf_341, (vu_341 + (1 : Int32)), vx_341) v1_6 v2_6)
    else
    some (B_341, O_340, J_341, V_341))
    else
    some (B_6, O_6, J_6, (vf_6, vu_6, (3 : Int32))))
    else
    some (B_6, O_6, J_6, V_6))
    else
    if (1 : Int32) ≠ 0 then
    (match V_6 with
    | (vf_6, vu_6, vx_6) =>
    if vu_6 ≠ vf_6 then
    ((fm_begin O_6).bind fun z345 =>
    match z345 with
    | (O_345) =>
    if (1 : Int32) = 0 then
    ((fm_putAll fl B_6 O_345 v1_6 (0 : Int32) v3_6).bind fun z347 =>
    match z347 with
    | (O_347) =>
    match B_6 with
    | (br_6, bl_6) =>
    if (((80 : Int32) + (r7 / (10 : Int32))) < 0 ∨ 96 ≤ (((80 : Int32) + (r7 / (10 : Int32)))).toNatClampNeg) then none else
    (fm_putAll fl B_6 O_347 ((80 : Int32) + (r7 / (10 : Int32))) (0 : Int32) (bl_6 (((80 : Int32) + (r7 / (10 : Int32)))).toNatClampNeg)).bind fun z349 =>
    match z349 with
    | (O_349) =>
    if (v1_6 < 0 ∨ 96 ≤ (v1_6).toNatClampNeg) then none else
    (fm_putAll fl B_6 O_349 v1_6 (v3_6 + (1 : Int32)) (bl_6 (v1_6).toNatClampNeg)).bind fun z351 =>
    match z351 with
    | (O_351) =>
    (fm_take fl B_6 O_351 J_6 V_6 v1_6).bind fun z352 =>
    match z352 with
    | (r352, B_352, J_352, V_352) =>
    if (am_bz r352) ≠ 0 then
    (match V_352 with
    | (vf_352, vu_352, vx_352) =>
    lp_fm_toHead_13 fl w G B_352 O_351 J_352 (vf_352, (vu_352 + (1 : Int32)), vx_352) v1_6 v2_6)
    else
    some (B_352, O_351, J_352, V_352))
    else
    (fm_endOf fl B_6 v1_6 (v3_6 + (1 : Int32))).bind fun z354 =>
    match z354 with
    | (r354) =>
    (fm_endOf fl B_6 v1_6 r354).bind fun z355 =>
    match z355 with
    | (r355) =>
    (fm_endOf fl B_6 v1_6 r355).bind fun z356 =>
    match z356 with
    | (r356) =>
    (fm_putAll fl B_6 O_345 v1_6 (0 : Int32) (v3_6 - (1 : Int32))).bind fun z357 =>
    match z357 with
    | (O_357) =>
    (fm_putFor fl B_6 O_357 J_6 v1_6 r354 r355 v1_6 r355 r356).bind fun z358 =>
    match z358 with
    | (O_358, J_358) =>
    match B_6 with
    | (br_6, bl_6) =>
    if (v1_6 < 0 ∨ 96 ≤ (v1_6).toNatClampNeg) then none else
    (fm_putAll fl B_6 O_358 v1_6 r356 (bl_6 (v1_6).toNatClampNeg)).bind fun z360 =>
    match z360 with
    | (O_360) =>
    (fm_take fl B_6 O_360 J_358 V_6 v1_6).bind fun z361 =>
    match z361 with
    | (r361, B_361, J_361, V_361) =>
    if (am_bz r361) ≠ 0 then
    (match V_361 with
    | (vf_361, vu_361, vx_361) =>
    lp_fm_toHead_13 fl w G B_361 O_360 J_361 (vf_361, (vu_361 + (1 : Int32)), vx_361) v1_6 v2_6)
    else
    some (B_361, O_360, J_361, V_361))
    else
    some (B_6, O_6, J_6, (vf_6, vu_6, (3 : Int32))))
    else
    if (1 : Int32) ≠ 0 then
    (match V_6 with
    | (vf_6, vu_6, vx_6) =>
    if vu_6 ≠ vf_6 then
    ((fm_begin O_6).bind fun z365 =>
    match z365 with
    | (O_365) =>
    if (1 : Int32) = 0 then
    ((fm_putAll fl B_6 O_365 v1_6 (0 : Int32) v3_6).bind fun z367 =>
    match z367 with
    | (O_367) =>
    match B_6 with
    | (br_6, bl_6) =>
    if (((80 : Int32) + (r7 / (10 : Int32))) < 0 ∨ 96 ≤ (((80 : Int32) + (r7 / (10 : Int32)))).toNatClampNeg) then none else
    (fm_putAll fl B_6 O_367 ((80 : Int32) + (r7 / (10 : Int32))) (0 : Int32) (bl_6 (((80 : Int32) + (r7 / (10 : Int32)))).toNatClampNeg)).bind fun z369 =>
    match z369 with
    | (O_369) =>
    if (v1_6 < 0 ∨ 96 ≤ (v1_6).toNatClampNeg) then none else
    (fm_putAll fl B_6 O_369 v1_6 (v3_6 + (1 : Int32)) (bl_6 (v1_6).toNatClampNeg)).bind fun z371 =>
    match z371 with
    | (O_371) =>
    (fm_take fl B_6 O_371 J_6 V_6 v1_6).bind fun z372 =>
    match z372 with
    | (r372, B_372, J_372, V_372) =>
    if (am_bz r372) ≠ 0 then
    (match V_372 with
    | (vf_372, vu_372, vx_372) =>
    lp_fm_toHead_13 fl w G B_372 O_371 J_372 (vf_372, (vu_372 + (1 : Int32)), vx_372) v1_6 v2_6)
    else
    some (B_372, O_371, J_372, V_372))
    else
    (fm_endOf fl B_6 v1_6 (v3_6 + (1 : Int32))).bind fun z374 =>
    match z374 with
    | (r374) =>
    (fm_endOf fl B_6 v1_6 r374).bind fun z375 =>
    match z375 with
    | (r375) =>
    (fm_endOf fl B_6 v1_6 r375).bind fun z376 =>
    match z376 with
    | (r376) =>
    (fm_putAll fl B_6 O_365 v1_6 (0 : Int32) (v3_6 - (1 : Int32))).bind fun z377 =>
    match z377 with
    | (O_377) =>
    (fm_putFor fl B_6 O_377 J_6 v1_6 r374 r375 v1_6 r375 r376).bind fun z378 =>
    match z378 with
    | (O_378, J_378) =>
    match B_6 with
    | (br_6, bl_6) =>
    if (v1_6 < 0 ∨ 96 ≤ (v1_6).toNatClampNeg) then none else
    (fm_putAll fl B_6 O_378 v1_6 r376 (bl_6 (v1_6).toNatClampNeg)).bind fun z380 =>
    match z380 with
    | (O_380) =>
    (fm_take fl B_6 O_380 J_378 V_6 v1_6).bind fun z381 =>
    match z381 with
    | (r381, B_381, J_381, V_381) =>
    if (am_bz r381) ≠ 0 then
    (match V_381 with
    | (vf_381, vu_381, vx_381) =>
    lp_fm_toHead_13 fl w G B_381 O_380 J_381 (vf_381, (vu_381 + (1 : Int32)), vx_381) v1_6 v2_6)
    else
    some (B_381, O_380, J_381, V_381))
    else
    some (B_6, O_6, J_6, (vf_6, vu_6, (3 : Int32))))
    else
    some (B_6, O_6, J_6, V_6)
def fm_toHead (fl : Nat) (G : cG) (B : cB) (O : cO) (J : cJ) (V : cV) (p1 : Int32) : Option (cB × cO × cJ × cV) :=
  match V with
  | (vf, vu, vx) =>
  if vx ≠ 0 then
  (lp_fm_toHead_13 fl fl G B O J V p1 (0 : Int32))
  else
  lp_fm_toHead_13 fl fl G B O J V p1 (1 : Int32)
set_option maxHeartbeats 4000000 in
set_option maxRecDepth 100000 in
theorem ok_lp_fm_toHead_19 {fl : Nat} : ∀ {w : Nat} {N : cN} {C : cC} {E : cE} {F : cF} {P : cP} {Q : cQ} {T : cT} {G : cG} {U : cU} {H : cH} {B : cB} {O : cO} {J : cJ} {V : cV} {Y : cY} {Z : cZ} {O9 : cO9} {k n : Nat} {v1 : Int32} {v2 : Int32} {v3 : Int32} {B' : cB} {O' : cO} {J' : cJ} {V' : cV} {v1' : Int32} {v2' : Int32} {v3' : Int32} {r : am_R} (h : lp_fm_toHead_19 fl w G B O J V v1 v2 v3 = some (B', O', J', V', v1', v2', v3')) (D : Nat) (hD : 3 ≤ D) (hk : am_Ev D 94 0 (fun _ => 0) (38, [(0, .ref 19), (1, .int (v1')), (2, .int (v2')), (3, .int (v3'))], [], (W9 N C E F P Q T G U H B' O' J' V' Y Z O9), k, n) r), am_Ev D 94 0 (fun _ => 0) (19, [(0, .ref 19), (1, .int v1), (2, .int v2), (3, .int v3)], [], (W9 N C E F P Q T G U H B O J V Y Z O9), k, n) r := by
  intro w
  induction w with
  | zero => intros; rename_i h _ _ _; cases h
  | succ w ih0 =>
    intro N C E F P Q T G U H B O J V Y Z O9 k n v1 v2 v3 B' O' J' V' v1' v2' v3' r h D hD hk
    have ih := fun {N} {C} {E} {F} {P} {Q} {T} {G} {U} {H} {B} {O} {J} {V} {Y} {Z} {O9} {k} {n} {v1} {v2} {v3} {B'} {O'} {J'} {V'} {v1'} {v2'} {v3'} {r} h hk => @ih0 N C E F P Q T G U H B O J V Y Z O9 k n v1 v2 v3 B' O' J' V' v1' v2' v3' r h D hD hk
    unfold lp_fm_toHead_19 at h
    refine am_ev_st 3 (f' := (22, [(0, .ref 19), (1, .int v1), (2, .int v2), (3, .int v3)], [.int v3, .int v1, .ref 19], (W9 N C E F P Q T G U H B O J V Y Z O9), k, n)) (g := True ∧ True ∧ True ∧ True) (by with_unfolding_all rfl) ⟨trivial, trivial, trivial, trivial⟩ ?_
    replace h := Option.bind_eq_some_iff.mp h
    obtain ⟨r3, hc3, h⟩ := h
    try dsimp only at h
    refine am_ev_call (.invokevirtual 69) 81 4 820 [.ref 19, .int v1, .int v3] [] rfl rfl rfl rfl (ok_fm_at hc3 D (by omega)) rfl ?_
    replace h := Option.bind_eq_some_iff.mp h
    obtain ⟨r4, hc4, h⟩ := h
    try dsimp only at h
    refine am_ev_call (.invokestatic 80) 78 2 824 [.int r3] [] rfl rfl rfl rfl (ok_fm_kindOf hc4 D (by omega)) rfl ?_
    refine am_ev_st 2 (f' := am_br (r4 ≠ (4 : Int32)) 38 29 [(0, .ref 19), (1, .int v1), (2, .int v2), (3, .int v3)] [] (W9 N C E F P Q T G U H B O J V Y Z O9) k n) (g := True ∧ True ∧ True) (by with_unfolding_all rfl) ⟨trivial, trivial, trivial⟩ ?_
    by_cases c5 : r4 ≠ (4 : Int32)
    · rw [if_pos c5] at h
      refine am_ev_pos c5 ?_
      cases h
      exact hk
    · rw [if_neg c5] at h
      refine am_ev_neg c5 ?_
      refine am_ev_st 2 (f' := (19, [(3, .int (v3 + (1 : Int32))), (0, .ref 19), (1, .int v1), (2, .int v2)], [], (W9 N C E F P Q T G U H B O J V Y Z O9), k, n)) (g := True ∧ True ∧ True) (by with_unfolding_all rfl) ⟨trivial, trivial, trivial⟩ ?_
      refine am_ev_drop [1, 2, 3, 0] rfl rfl ?_
      exact ih h hk
set_option maxHeartbeats 4000000 in
set_option maxRecDepth 100000 in
theorem ok_lp_fm_toHead_13 {fl : Nat} : ∀ {w : Nat} {N : cN} {C : cC} {E : cE} {F : cF} {P : cP} {Q : cQ} {T : cT} {G : cG} {U : cU} {H : cH} {B : cB} {O : cO} {J : cJ} {V : cV} {Y : cY} {Z : cZ} {O9 : cO9} {k n : Nat} {v1 : Int32} {v2 : Int32} {B' : cB} {O' : cO} {J' : cJ} {V' : cV} (h : lp_fm_toHead_13 fl w G B O J V v1 v2 = some (B', O', J', V')) (D : Nat) (hD : 3 ≤ D), am_Ev D 94 0 (fun _ => 0) (13, [(0, .ref 19), (1, .int v1), (2, .int v2)], [], (W9 N C E F P Q T G U H B O J V Y Z O9), k, n) (.inl none, W9 N C E F P Q T G U H B' O' J' V' Y Z O9, k, n) := by
  intro w
  induction w with
  | zero => intros; rename_i h _ _; cases h
  | succ w ih0 =>
    intro N C E F P Q T G U H B O J V Y Z O9 k n v1 v2 B' O' J' V' h D hD
    have ih := fun {N} {C} {E} {F} {P} {Q} {T} {G} {U} {H} {B} {O} {J} {V} {Y} {Z} {O9} {k} {n} {v1} {v2} {B'} {O'} {J'} {V'} h => @ih0 N C E F P Q T G U H B O J V Y Z O9 k n v1 v2 B' O' J' V' h D hD
    unfold lp_fm_toHead_13 at h
    refine am_ev_st 2 (f' := am_br (v2 = 0) 268 14 [(0, .ref 19), (1, .int v1), (2, .int v2)] [] (W9 N C E F P Q T G U H B O J V Y Z O9) k n) (g := True ∧ True ∧ True) (by with_unfolding_all rfl) ⟨trivial, trivial, trivial⟩ ?_
    by_cases c2 : v2 = 0
    · rw [if_pos c2] at h
      refine am_ev_pos c2 ?_
      cases h
      exact am_ev_vret 0 0 0 rfl rfl rfl
    · rw [if_neg c2] at h
      refine am_ev_neg c2 ?_
      refine am_ev_st 2 (f' := (19, [(3, .int (0 : Int32)), (0, .ref 19), (1, .int v1), (2, .int v2)], [], (W9 N C E F P Q T G U H B O J V Y Z O9), k, n)) (g := True ∧ True ∧ True) (by with_unfolding_all rfl) ⟨trivial, trivial, trivial⟩ ?_
      refine am_ev_drop [1, 2, 3, 0] rfl rfl ?_
      replace h := Option.bind_eq_some_iff.mp h
      obtain ⟨⟨B_6, O_6, J_6, V_6, v1_6, v2_6, v3_6⟩, hc6, h⟩ := h
      try dsimp only at h
      refine ok_lp_fm_toHead_19 hc6 D hD ?_
      refine am_ev_st 3 (f' := (41, [(0, .ref 19), (1, .int v1_6), (2, .int v2_6), (3, .int v3_6)], [.int v3_6, .int v1_6, .ref 19], (W9 N C E F P Q T G U H B_6 O_6 J_6 V_6 Y Z O9), k, n)) (g := True ∧ True ∧ True ∧ True) (by with_unfolding_all rfl) ⟨trivial, trivial, trivial, trivial⟩ ?_
      replace h := Option.bind_eq_some_iff.mp h
      obtain ⟨r7, hc7, h⟩ := h
      try dsimp only at h
      refine am_ev_call (.invokevirtual 69) 81 4 820 [.ref 19, .int v1_6, .int v3_6] [] rfl rfl rfl rfl (ok_fm_at hc7 D (by omega)) rfl ?_
      refine am_ev_st 2 (f' := (48, [(4, .int r7), (0, .ref 19), (1, .int v1_6), (2, .int v2_6), (3, .int v3_6)], [.int r7], (W9 N C E F P Q T G U H B_6 O_6 J_6 V_6 Y Z O9), k, n)) (g := True ∧ True ∧ True) (by with_unfolding_all rfl) ⟨trivial, trivial, trivial⟩ ?_
      replace h := Option.bind_eq_some_iff.mp h
      obtain ⟨r8, hc8, h⟩ := h
      try dsimp only at h
      refine am_ev_call (.invokestatic 80) 78 2 824 [.int r7] [] rfl rfl rfl rfl (ok_fm_kindOf hc8 D (by omega)) rfl ?_
      refine am_ev_st 2 (f' := am_br (r8 ≠ (3 : Int32)) 63 52 [(4, .int r7), (0, .ref 19), (1, .int v1_6), (2, .int v2_6), (3, .int v3_6)] [] (W9 N C E F P Q T G U H B_6 O_6 J_6 V_6 Y Z O9) k n) (g := True ∧ True ∧ True) (by with_unfolding_all rfl) ⟨trivial, trivial, trivial⟩ ?_
      by_cases c9 : r8 ≠ (3 : Int32)
      · rw [if_pos c9] at h
        refine am_ev_pos c9 ?_
        refine am_ev_st 3 (f' := (68, [(5, .int (0 : Int32)), (4, .int r7), (0, .ref 19), (1, .int v1_6), (2, .int v2_6), (3, .int v3_6)], [.int r7], (W9 N C E F P Q T G U H B_6 O_6 J_6 V_6 Y Z O9), k, n)) (g := True ∧ True ∧ True ∧ True) (by with_unfolding_all rfl) ⟨trivial, trivial, trivial, trivial⟩ ?_
        replace h := Option.bind_eq_some_iff.mp h
        obtain ⟨r10, hc10, h⟩ := h
        try dsimp only at h
        refine am_ev_call (.invokestatic 80) 78 2 824 [.int r7] [] rfl rfl rfl rfl (ok_fm_kindOf hc10 D (by omega)) rfl ?_
        refine am_ev_st 2 (f' := am_br (r10 ≠ (5 : Int32)) 92 72 [(5, .int (0 : Int32)), (4, .int r7), (0, .ref 19), (1, .int v1_6), (2, .int v2_6), (3, .int v3_6)] [] (W9 N C E F P Q T G U H B_6 O_6 J_6 V_6 Y Z O9) k n) (g := True ∧ True ∧ True) (by with_unfolding_all rfl) ⟨trivial, trivial, trivial⟩ ?_
        by_cases c11 : r10 ≠ (5 : Int32)
        · rw [if_pos c11] at h
          refine am_ev_pos c11 ?_
          refine am_ev_st 4 (f' := am_br ((0 : Int32) ≠ 0) 106 97 [(6, .int (0 : Int32)), (5, .int (0 : Int32)), (4, .int r7), (0, .ref 19), (1, .int v1_6), (2, .int v2_6), (3, .int v3_6)] [] (W9 N C E F P Q T G U H B_6 O_6 J_6 V_6 Y Z O9) k n) (g := True ∧ True ∧ True ∧ True ∧ True) (by with_unfolding_all rfl) ⟨trivial, trivial, trivial, trivial, trivial⟩ ?_
          by_cases c12 : (0 : Int32) ≠ 0
          · rw [if_pos c12] at h
            refine am_ev_pos c12 ?_
            obtain ⟨vf_6, vu_6, vx_6⟩ := V_6
            try dsimp only at h
            refine am_ev_st 5 (f' := am_br (vu_6 ≠ vf_6) 123 114 [(6, .int (0 : Int32)), (5, .int (0 : Int32)), (4, .int r7), (0, .ref 19), (1, .int v1_6), (2, .int v2_6), (3, .int v3_6)] [] (W9 N C E F P Q T G U H B_6 O_6 J_6 (vf_6, vu_6, vx_6) Y Z O9) k n) (g := True ∧ True ∧ True ∧ True ∧ True ∧ True) (by with_unfolding_all rfl) ⟨trivial, trivial, trivial, trivial, trivial, trivial⟩ ?_
            by_cases c13 : vu_6 ≠ vf_6
            · rw [if_pos c13] at h
              refine am_ev_pos c13 ?_
              refine am_ev_st 1 (f' := (124, [(6, .int (0 : Int32)), (5, .int (0 : Int32)), (4, .int r7), (0, .ref 19), (1, .int v1_6), (2, .int v2_6), (3, .int v3_6)], [.ref 19], (W9 N C E F P Q T G U H B_6 O_6 J_6 (vf_6, vu_6, vx_6) Y Z O9), k, n)) (g := True ∧ True) (by with_unfolding_all rfl) ⟨trivial, trivial⟩ ?_
              replace h := Option.bind_eq_some_iff.mp h
              obtain ⟨O_14, hc14, h⟩ := h
              try dsimp only at h
              refine am_ev_call (.invokevirtual 114) 88 0 865 [.ref 19] [] rfl rfl rfl rfl (ok_fm_begin hc14 D (by omega)) rfl ?_
              refine am_ev_st 2 (f' := am_br ((0 : Int32) = 0) 199 129 [(6, .int (0 : Int32)), (5, .int (0 : Int32)), (4, .int r7), (0, .ref 19), (1, .int v1_6), (2, .int v2_6), (3, .int v3_6)] [] (W9 N C E F P Q T G U H B_6 O_14 J_6 (vf_6, vu_6, vx_6) Y Z O9) k n) (g := True ∧ True ∧ True) (by with_unfolding_all rfl) ⟨trivial, trivial, trivial⟩ ?_
              by_cases c15 : (0 : Int32) = 0
              · rw [if_pos c15] at h
                refine am_ev_pos c15 ?_
                refine am_ev_st 4 (f' := (203, [(6, .int (0 : Int32)), (5, .int (0 : Int32)), (4, .int r7), (0, .ref 19), (1, .int v1_6), (2, .int v2_6), (3, .int v3_6)], [.int v3_6, .int (0 : Int32), .int v1_6, .ref 19], (W9 N C E F P Q T G U H B_6 O_14 J_6 (vf_6, vu_6, vx_6) Y Z O9), k, n)) (g := True ∧ True ∧ True ∧ True ∧ True) (by with_unfolding_all rfl) ⟨trivial, trivial, trivial, trivial, trivial⟩ ?_
                replace h := Option.bind_eq_some_iff.mp h
                obtain ⟨O_16, hc16, h⟩ := h
                try dsimp only at h
                refine am_ev_call (.invokevirtual 117) 90 6 869 [.ref 19, .int v1_6, .int (0 : Int32), .int v3_6] [] rfl rfl rfl rfl (ok_fm_putAll hc16 D (by omega)) rfl ?_
                obtain ⟨br_6, bl_6⟩ := B_6
                try dsimp only at h
                by_cases g17 : (((80 : Int32) + (r7 / (10 : Int32))) < 0 ∨ 96 ≤ (((80 : Int32) + (r7 / (10 : Int32)))).toNatClampNeg)
                · rw [if_pos g17] at h; cases h
                rw [if_neg g17] at h
                refine am_ev_st 15 (f' := (229, [(6, .int (0 : Int32)), (5, .int (0 : Int32)), (4, .int r7), (0, .ref 19), (1, .int v1_6), (2, .int v2_6), (3, .int v3_6)], [.int (bl_6 (((80 : Int32) + (r7 / (10 : Int32)))).toNatClampNeg), .int (0 : Int32), .int ((80 : Int32) + (r7 / (10 : Int32))), .ref 19], (W9 N C E F P Q T G U H (br_6, bl_6) O_16 J_6 (vf_6, vu_6, vx_6) Y Z O9), k, n)) (g := True ∧ True ∧ True ∧ True ∧ ¬ ((10 : Int32) = 0) ∧ True ∧ True ∧ True ∧ True ∧ True ∧ True ∧ True ∧ ¬ ((10 : Int32) = 0) ∧ True ∧ vp_in (((80 : Int32) + (r7 / (10 : Int32)))) 96 ∧ True) (by with_unfolding_all rfl) ⟨trivial, trivial, trivial, trivial, by decide, trivial, trivial, trivial, trivial, trivial, trivial, trivial, by decide, trivial, g17, trivial⟩ ?_
                replace h := Option.bind_eq_some_iff.mp h
                obtain ⟨O_18, hc18, h⟩ := h
                try dsimp only at h
                refine am_ev_call (.invokevirtual 117) 90 6 869 [.ref 19, .int ((80 : Int32) + (r7 / (10 : Int32))), .int (0 : Int32), .int (bl_6 (((80 : Int32) + (r7 / (10 : Int32)))).toNatClampNeg)] [] rfl rfl rfl rfl (ok_fm_putAll hc18 D (by omega)) rfl ?_
                by_cases g19 : (v1_6 < 0 ∨ 96 ≤ (v1_6).toNatClampNeg)
                · rw [if_pos g19] at h; cases h
                rw [if_neg g19] at h
                refine am_ev_st 9 (f' := (243, [(6, .int (0 : Int32)), (5, .int (0 : Int32)), (4, .int r7), (0, .ref 19), (1, .int v1_6), (2, .int v2_6), (3, .int v3_6)], [.int (bl_6 (v1_6).toNatClampNeg), .int (v3_6 + (1 : Int32)), .int v1_6, .ref 19], (W9 N C E F P Q T G U H (br_6, bl_6) O_18 J_6 (vf_6, vu_6, vx_6) Y Z O9), k, n)) (g := True ∧ True ∧ True ∧ True ∧ True ∧ True ∧ True ∧ True ∧ vp_in (v1_6) 96 ∧ True) (by with_unfolding_all rfl) ⟨trivial, trivial, trivial, trivial, trivial, trivial, trivial, trivial, g19, trivial⟩ ?_
                replace h := Option.bind_eq_some_iff.mp h
                obtain ⟨O_20, hc20, h⟩ := h
                try dsimp only at h
                refine am_ev_call (.invokevirtual 117) 90 6 869 [.ref 19, .int v1_6, .int (v3_6 + (1 : Int32)), .int (bl_6 (v1_6).toNatClampNeg)] [] rfl rfl rfl rfl (ok_fm_putAll hc20 D (by omega)) rfl ?_
                refine am_ev_st 2 (f' := (248, [(6, .int (0 : Int32)), (5, .int (0 : Int32)), (4, .int r7), (0, .ref 19), (1, .int v1_6), (2, .int v2_6), (3, .int v3_6)], [.int v1_6, .ref 19], (W9 N C E F P Q T G U H (br_6, bl_6) O_20 J_6 (vf_6, vu_6, vx_6) Y Z O9), k, n)) (g := True ∧ True ∧ True) (by with_unfolding_all rfl) ⟨trivial, trivial, trivial⟩ ?_
                replace h := Option.bind_eq_some_iff.mp h
                obtain ⟨⟨r21, B_21, J_21, V_21⟩, hc21, h⟩ := h
                try dsimp only at h
                refine am_ev_call (.invokevirtual 125) 93 2 885 [.ref 19, .int v1_6] [] rfl rfl rfl rfl (ok_fm_take hc21 D (by omega)) rfl ?_
                refine am_ev_st 1 (f' := am_br ((am_bz r21) ≠ 0) 255 251 [(6, .int (0 : Int32)), (5, .int (0 : Int32)), (4, .int r7), (0, .ref 19), (1, .int v1_6), (2, .int v2_6), (3, .int v3_6)] [] (W9 N C E F P Q T G U H B_21 O_20 J_21 V_21 Y Z O9) k n) (g := True ∧ True) (by with_unfolding_all rfl) ⟨trivial, trivial⟩ ?_
                by_cases c22 : (am_bz r21) ≠ 0
                · rw [if_pos c22] at h
                  refine am_ev_pos c22 ?_
                  obtain ⟨vf_21, vu_21, vx_21⟩ := V_21
                  try dsimp only at h
                  refine am_ev_st 7 (f' := (13, [(6, .int (0 : Int32)), (5, .int (0 : Int32)), (4, .int r7), (0, .ref 19), (1, .int v1_6), (2, .int v2_6), (3, .int v3_6)], [], (W9 N C E F P Q T G U H B_21 O_20 J_21 (vf_21, (vu_21 + (1 : Int32)), vx_21) Y Z O9), k, n)) (g := True ∧ True ∧ True ∧ True ∧ True ∧ True ∧ True ∧ True) (by with_unfolding_all rfl) ⟨trivial, trivial, trivial, trivial, trivial, trivial, trivial, trivial⟩ ?_
                  refine am_ev_drop [3, 4, 5] rfl rfl ?_
                  exact ih h
                · rw [if_neg c22] at h
                  refine am_ev_neg c22 ?_
                  cases h
                  exact am_ev_vret 0 0 0 rfl rfl rfl
              · rw [if_neg c15] at h
                refine am_ev_neg c15 ?_
                refine am_ev_st 5 (f' := (137, [(6, .int (0 : Int32)), (5, .int (0 : Int32)), (4, .int r7), (0, .ref 19), (1, .int v1_6), (2, .int v2_6), (3, .int v3_6)], [.int (v3_6 + (1 : Int32)), .int v1_6, .ref 19], (W9 N C E F P Q T G U H B_6 O_14 J_6 (vf_6, vu_6, vx_6) Y Z O9), k, n)) (g := True ∧ True ∧ True ∧ True ∧ True ∧ True) (by with_unfolding_all rfl) ⟨trivial, trivial, trivial, trivial, trivial, trivial⟩ ?_
                replace h := Option.bind_eq_some_iff.mp h
                obtain ⟨r23, hc23, h⟩ := h
                try dsimp only at h
                refine am_ev_call (.invokevirtual 77) 82 4 853 [.ref 19, .int v1_6, .int (v3_6 + (1 : Int32))] [] rfl rfl rfl rfl (ok_fm_endOf hc23 D (by omega)) rfl ?_
                refine am_ev_st 4 (f' := (146, [(7, .int r23), (6, .int (0 : Int32)), (5, .int (0 : Int32)), (4, .int r7), (0, .ref 19), (1, .int v1_6), (2, .int v2_6), (3, .int v3_6)], [.int r23, .int v1_6, .ref 19], (W9 N C E F P Q T G U H B_6 O_14 J_6 (vf_6, vu_6, vx_6) Y Z O9), k, n)) (g := True ∧ True ∧ True ∧ True ∧ True) (by with_unfolding_all rfl) ⟨trivial, trivial, trivial, trivial, trivial⟩ ?_
                replace h := Option.bind_eq_some_iff.mp h
                obtain ⟨r24, hc24, h⟩ := h
                try dsimp only at h
                refine am_ev_call (.invokevirtual 77) 82 4 853 [.ref 19, .int v1_6, .int r23] [] rfl rfl rfl rfl (ok_fm_endOf hc24 D (by omega)) rfl ?_
                refine am_ev_st 4 (f' := (155, [(8, .int r24), (7, .int r23), (6, .int (0 : Int32)), (5, .int (0 : Int32)), (4, .int r7), (0, .ref 19), (1, .int v1_6), (2, .int v2_6), (3, .int v3_6)], [.int r24, .int v1_6, .ref 19], (W9 N C E F P Q T G U H B_6 O_14 J_6 (vf_6, vu_6, vx_6) Y Z O9), k, n)) (g := True ∧ True ∧ True ∧ True ∧ True) (by with_unfolding_all rfl) ⟨trivial, trivial, trivial, trivial, trivial⟩ ?_
                replace h := Option.bind_eq_some_iff.mp h
                obtain ⟨r25, hc25, h⟩ := h
                try dsimp only at h
                refine am_ev_call (.invokevirtual 77) 82 4 853 [.ref 19, .int v1_6, .int r24] [] rfl rfl rfl rfl (ok_fm_endOf hc25 D (by omega)) rfl ?_
                refine am_ev_st 7 (f' := (166, [(9, .int r25), (8, .int r24), (7, .int r23), (6, .int (0 : Int32)), (5, .int (0 : Int32)), (4, .int r7), (0, .ref 19), (1, .int v1_6), (2, .int v2_6), (3, .int v3_6)], [.int (v3_6 - (1 : Int32)), .int (0 : Int32), .int v1_6, .ref 19], (W9 N C E F P Q T G U H B_6 O_14 J_6 (vf_6, vu_6, vx_6) Y Z O9), k, n)) (g := True ∧ True ∧ True ∧ True ∧ True ∧ True ∧ True ∧ True) (by with_unfolding_all rfl) ⟨trivial, trivial, trivial, trivial, trivial, trivial, trivial, trivial⟩ ?_
                replace h := Option.bind_eq_some_iff.mp h
                obtain ⟨O_26, hc26, h⟩ := h
                try dsimp only at h
                refine am_ev_call (.invokevirtual 117) 90 6 869 [.ref 19, .int v1_6, .int (0 : Int32), .int (v3_6 - (1 : Int32))] [] rfl rfl rfl rfl (ok_fm_putAll hc26 D (by omega)) rfl ?_
                refine am_ev_st 7 (f' := (180, [(9, .int r25), (8, .int r24), (7, .int r23), (6, .int (0 : Int32)), (5, .int (0 : Int32)), (4, .int r7), (0, .ref 19), (1, .int v1_6), (2, .int v2_6), (3, .int v3_6)], [.int r25, .int r24, .int v1_6, .int r24, .int r23, .int v1_6, .ref 19], (W9 N C E F P Q T G U H B_6 O_26 J_6 (vf_6, vu_6, vx_6) Y Z O9), k, n)) (g := True ∧ True ∧ True ∧ True ∧ True ∧ True ∧ True ∧ True) (by with_unfolding_all rfl) ⟨trivial, trivial, trivial, trivial, trivial, trivial, trivial, trivial⟩ ?_
                replace h := Option.bind_eq_some_iff.mp h
                obtain ⟨⟨O_27, J_27⟩, hc27, h⟩ := h
                try dsimp only at h
                refine am_ev_call (.invokevirtual 121) 92 12 877 [.ref 19, .int v1_6, .int r23, .int r24, .int v1_6, .int r24, .int r25] [] rfl rfl rfl rfl (ok_fm_putFor hc27 D (by omega)) rfl ?_
                obtain ⟨br_6, bl_6⟩ := B_6
                try dsimp only at h
                by_cases g28 : (v1_6 < 0 ∨ 96 ≤ (v1_6).toNatClampNeg)
                · rw [if_pos g28] at h; cases h
                rw [if_neg g28] at h
                refine am_ev_st 7 (f' := (193, [(9, .int r25), (8, .int r24), (7, .int r23), (6, .int (0 : Int32)), (5, .int (0 : Int32)), (4, .int r7), (0, .ref 19), (1, .int v1_6), (2, .int v2_6), (3, .int v3_6)], [.int (bl_6 (v1_6).toNatClampNeg), .int r25, .int v1_6, .ref 19], (W9 N C E F P Q T G U H (br_6, bl_6) O_27 J_27 (vf_6, vu_6, vx_6) Y Z O9), k, n)) (g := True ∧ True ∧ True ∧ True ∧ True ∧ True ∧ vp_in (v1_6) 96 ∧ True) (by with_unfolding_all rfl) ⟨trivial, trivial, trivial, trivial, trivial, trivial, g28, trivial⟩ ?_
                replace h := Option.bind_eq_some_iff.mp h
                obtain ⟨O_29, hc29, h⟩ := h
                try dsimp only at h
                refine am_ev_call (.invokevirtual 117) 90 6 869 [.ref 19, .int v1_6, .int r25, .int (bl_6 (v1_6).toNatClampNeg)] [] rfl rfl rfl rfl (ok_fm_putAll hc29 D (by omega)) rfl ?_
                refine am_ev_st 3 (f' := (248, [(9, .int r25), (8, .int r24), (7, .int r23), (6, .int (0 : Int32)), (5, .int (0 : Int32)), (4, .int r7), (0, .ref 19), (1, .int v1_6), (2, .int v2_6), (3, .int v3_6)], [.int v1_6, .ref 19], (W9 N C E F P Q T G U H (br_6, bl_6) O_29 J_27 (vf_6, vu_6, vx_6) Y Z O9), k, n)) (g := True ∧ True ∧ True ∧ True) (by with_unfolding_all rfl) ⟨trivial, trivial, trivial, trivial⟩ ?_
                replace h := Option.bind_eq_some_iff.mp h
                obtain ⟨⟨r30, B_30, J_30, V_30⟩, hc30, h⟩ := h
                try dsimp only at h
                refine am_ev_call (.invokevirtual 125) 93 2 885 [.ref 19, .int v1_6] [] rfl rfl rfl rfl (ok_fm_take hc30 D (by omega)) rfl ?_
                refine am_ev_st 1 (f' := am_br ((am_bz r30) ≠ 0) 255 251 [(9, .int r25), (8, .int r24), (7, .int r23), (6, .int (0 : Int32)), (5, .int (0 : Int32)), (4, .int r7), (0, .ref 19), (1, .int v1_6), (2, .int v2_6), (3, .int v3_6)] [] (W9 N C E F P Q T G U H B_30 O_29 J_30 V_30 Y Z O9) k n) (g := True ∧ True) (by with_unfolding_all rfl) ⟨trivial, trivial⟩ ?_
                by_cases c31 : (am_bz r30) ≠ 0
                · rw [if_pos c31] at h
                  refine am_ev_pos c31 ?_
                  obtain ⟨vf_30, vu_30, vx_30⟩ := V_30
                  try dsimp only at h
                  refine am_ev_st 7 (f' := (13, [(9, .int r25), (8, .int r24), (7, .int r23), (6, .int (0 : Int32)), (5, .int (0 : Int32)), (4, .int r7), (0, .ref 19), (1, .int v1_6), (2, .int v2_6), (3, .int v3_6)], [], (W9 N C E F P Q T G U H B_30 O_29 J_30 (vf_30, (vu_30 + (1 : Int32)), vx_30) Y Z O9), k, n)) (g := True ∧ True ∧ True ∧ True ∧ True ∧ True ∧ True ∧ True) (by with_unfolding_all rfl) ⟨trivial, trivial, trivial, trivial, trivial, trivial, trivial, trivial⟩ ?_
                  refine am_ev_drop [6, 7, 8] rfl rfl ?_
                  exact ih h
                · rw [if_neg c31] at h
                  refine am_ev_neg c31 ?_
                  cases h
                  exact am_ev_vret 0 0 0 rfl rfl rfl
            · rw [if_neg c13] at h
              refine am_ev_neg c13 ?_
              refine am_ev_st 3 (f' := (122, [(6, .int (0 : Int32)), (5, .int (0 : Int32)), (4, .int r7), (0, .ref 19), (1, .int v1_6), (2, .int v2_6), (3, .int v3_6)], [], (W9 N C E F P Q T G U H B_6 O_6 J_6 (vf_6, vu_6, (3 : Int32)) Y Z O9), k, n)) (g := True ∧ True ∧ True ∧ True) (by with_unfolding_all rfl) ⟨trivial, trivial, trivial, trivial⟩ ?_
              cases h
              exact am_ev_vret 0 0 0 rfl rfl rfl
          · rw [if_neg c12] at h
            refine am_ev_neg c12 ?_
            refine am_ev_st 2 (f' := am_br ((0 : Int32) ≠ 0) 106 102 [(6, .int (0 : Int32)), (5, .int (0 : Int32)), (4, .int r7), (0, .ref 19), (1, .int v1_6), (2, .int v2_6), (3, .int v3_6)] [] (W9 N C E F P Q T G U H B_6 O_6 J_6 V_6 Y Z O9) k n) (g := True ∧ True ∧ True) (by with_unfolding_all rfl) ⟨trivial, trivial, trivial⟩ ?_
            by_cases c32 : (0 : Int32) ≠ 0
            · rw [if_pos c32] at h
              refine am_ev_pos c32 ?_
              obtain ⟨vf_6, vu_6, vx_6⟩ := V_6
              try dsimp only at h
              refine am_ev_st 5 (f' := am_br (vu_6 ≠ vf_6) 123 114 [(6, .int (0 : Int32)), (5, .int (0 : Int32)), (4, .int r7), (0, .ref 19), (1, .int v1_6), (2, .int v2_6), (3, .int v3_6)] [] (W9 N C E F P Q T G U H B_6 O_6 J_6 (vf_6, vu_6, vx_6) Y Z O9) k n) (g := True ∧ True ∧ True ∧ True ∧ True ∧ True) (by with_unfolding_all rfl) ⟨trivial, trivial, trivial, trivial, trivial, trivial⟩ ?_
              by_cases c33 : vu_6 ≠ vf_6
              · rw [if_pos c33] at h
                refine am_ev_pos c33 ?_
                refine am_ev_st 1 (f' := (124, [(6, .int (0 : Int32)), (5, .int (0 : Int32)), (4, .int r7), (0, .ref 19), (1, .int v1_6), (2, .int v2_6), (3, .int v3_6)], [.ref 19], (W9 N C E F P Q T G U H B_6 O_6 J_6 (vf_6, vu_6, vx_6) Y Z O9), k, n)) (g := True ∧ True) (by with_unfolding_all rfl) ⟨trivial, trivial⟩ ?_
                replace h := Option.bind_eq_some_iff.mp h
                obtain ⟨O_34, hc34, h⟩ := h
                try dsimp only at h
                refine am_ev_call (.invokevirtual 114) 88 0 865 [.ref 19] [] rfl rfl rfl rfl (ok_fm_begin hc34 D (by omega)) rfl ?_
                refine am_ev_st 2 (f' := am_br ((0 : Int32) = 0) 199 129 [(6, .int (0 : Int32)), (5, .int (0 : Int32)), (4, .int r7), (0, .ref 19), (1, .int v1_6), (2, .int v2_6), (3, .int v3_6)] [] (W9 N C E F P Q T G U H B_6 O_34 J_6 (vf_6, vu_6, vx_6) Y Z O9) k n) (g := True ∧ True ∧ True) (by with_unfolding_all rfl) ⟨trivial, trivial, trivial⟩ ?_
                by_cases c35 : (0 : Int32) = 0
                · rw [if_pos c35] at h
                  refine am_ev_pos c35 ?_
                  refine am_ev_st 4 (f' := (203, [(6, .int (0 : Int32)), (5, .int (0 : Int32)), (4, .int r7), (0, .ref 19), (1, .int v1_6), (2, .int v2_6), (3, .int v3_6)], [.int v3_6, .int (0 : Int32), .int v1_6, .ref 19], (W9 N C E F P Q T G U H B_6 O_34 J_6 (vf_6, vu_6, vx_6) Y Z O9), k, n)) (g := True ∧ True ∧ True ∧ True ∧ True) (by with_unfolding_all rfl) ⟨trivial, trivial, trivial, trivial, trivial⟩ ?_
                  replace h := Option.bind_eq_some_iff.mp h
                  obtain ⟨O_36, hc36, h⟩ := h
                  try dsimp only at h
                  refine am_ev_call (.invokevirtual 117) 90 6 869 [.ref 19, .int v1_6, .int (0 : Int32), .int v3_6] [] rfl rfl rfl rfl (ok_fm_putAll hc36 D (by omega)) rfl ?_
                  obtain ⟨br_6, bl_6⟩ := B_6
                  try dsimp only at h
                  by_cases g37 : (((80 : Int32) + (r7 / (10 : Int32))) < 0 ∨ 96 ≤ (((80 : Int32) + (r7 / (10 : Int32)))).toNatClampNeg)
                  · rw [if_pos g37] at h; cases h
                  rw [if_neg g37] at h
                  refine am_ev_st 15 (f' := (229, [(6, .int (0 : Int32)), (5, .int (0 : Int32)), (4, .int r7), (0, .ref 19), (1, .int v1_6), (2, .int v2_6), (3, .int v3_6)], [.int (bl_6 (((80 : Int32) + (r7 / (10 : Int32)))).toNatClampNeg), .int (0 : Int32), .int ((80 : Int32) + (r7 / (10 : Int32))), .ref 19], (W9 N C E F P Q T G U H (br_6, bl_6) O_36 J_6 (vf_6, vu_6, vx_6) Y Z O9), k, n)) (g := True ∧ True ∧ True ∧ True ∧ ¬ ((10 : Int32) = 0) ∧ True ∧ True ∧ True ∧ True ∧ True ∧ True ∧ True ∧ ¬ ((10 : Int32) = 0) ∧ True ∧ vp_in (((80 : Int32) + (r7 / (10 : Int32)))) 96 ∧ True) (by with_unfolding_all rfl) ⟨trivial, trivial, trivial, trivial, by decide, trivial, trivial, trivial, trivial, trivial, trivial, trivial, by decide, trivial, g37, trivial⟩ ?_
                  replace h := Option.bind_eq_some_iff.mp h
                  obtain ⟨O_38, hc38, h⟩ := h
                  try dsimp only at h
                  refine am_ev_call (.invokevirtual 117) 90 6 869 [.ref 19, .int ((80 : Int32) + (r7 / (10 : Int32))), .int (0 : Int32), .int (bl_6 (((80 : Int32) + (r7 / (10 : Int32)))).toNatClampNeg)] [] rfl rfl rfl rfl (ok_fm_putAll hc38 D (by omega)) rfl ?_
                  by_cases g39 : (v1_6 < 0 ∨ 96 ≤ (v1_6).toNatClampNeg)
                  · rw [if_pos g39] at h; cases h
                  rw [if_neg g39] at h
                  refine am_ev_st 9 (f' := (243, [(6, .int (0 : Int32)), (5, .int (0 : Int32)), (4, .int r7), (0, .ref 19), (1, .int v1_6), (2, .int v2_6), (3, .int v3_6)], [.int (bl_6 (v1_6).toNatClampNeg), .int (v3_6 + (1 : Int32)), .int v1_6, .ref 19], (W9 N C E F P Q T G U H (br_6, bl_6) O_38 J_6 (vf_6, vu_6, vx_6) Y Z O9), k, n)) (g := True ∧ True ∧ True ∧ True ∧ True ∧ True ∧ True ∧ True ∧ vp_in (v1_6) 96 ∧ True) (by with_unfolding_all rfl) ⟨trivial, trivial, trivial, trivial, trivial, trivial, trivial, trivial, g39, trivial⟩ ?_
                  replace h := Option.bind_eq_some_iff.mp h
                  obtain ⟨O_40, hc40, h⟩ := h
                  try dsimp only at h
                  refine am_ev_call (.invokevirtual 117) 90 6 869 [.ref 19, .int v1_6, .int (v3_6 + (1 : Int32)), .int (bl_6 (v1_6).toNatClampNeg)] [] rfl rfl rfl rfl (ok_fm_putAll hc40 D (by omega)) rfl ?_
                  refine am_ev_st 2 (f' := (248, [(6, .int (0 : Int32)), (5, .int (0 : Int32)), (4, .int r7), (0, .ref 19), (1, .int v1_6), (2, .int v2_6), (3, .int v3_6)], [.int v1_6, .ref 19], (W9 N C E F P Q T G U H (br_6, bl_6) O_40 J_6 (vf_6, vu_6, vx_6) Y Z O9), k, n)) (g := True ∧ True ∧ True) (by with_unfolding_all rfl) ⟨trivial, trivial, trivial⟩ ?_
                  replace h := Option.bind_eq_some_iff.mp h
                  obtain ⟨⟨r41, B_41, J_41, V_41⟩, hc41, h⟩ := h
                  try dsimp only at h
                  refine am_ev_call (.invokevirtual 125) 93 2 885 [.ref 19, .int v1_6] [] rfl rfl rfl rfl (ok_fm_take hc41 D (by omega)) rfl ?_
                  refine am_ev_st 1 (f' := am_br ((am_bz r41) ≠ 0) 255 251 [(6, .int (0 : Int32)), (5, .int (0 : Int32)), (4, .int r7), (0, .ref 19), (1, .int v1_6), (2, .int v2_6), (3, .int v3_6)] [] (W9 N C E F P Q T G U H B_41 O_40 J_41 V_41 Y Z O9) k n) (g := True ∧ True) (by with_unfolding_all rfl) ⟨trivial, trivial⟩ ?_
                  by_cases c42 : (am_bz r41) ≠ 0
                  · rw [if_pos c42] at h
                    refine am_ev_pos c42 ?_
                    obtain ⟨vf_41, vu_41, vx_41⟩ := V_41
                    try dsimp only at h
                    refine am_ev_st 7 (f' := (13, [(6, .int (0 : Int32)), (5, .int (0 : Int32)), (4, .int r7), (0, .ref 19), (1, .int v1_6), (2, .int v2_6), (3, .int v3_6)], [], (W9 N C E F P Q T G U H B_41 O_40 J_41 (vf_41, (vu_41 + (1 : Int32)), vx_41) Y Z O9), k, n)) (g := True ∧ True ∧ True ∧ True ∧ True ∧ True ∧ True ∧ True) (by with_unfolding_all rfl) ⟨trivial, trivial, trivial, trivial, trivial, trivial, trivial, trivial⟩ ?_
                    refine am_ev_drop [3, 4, 5] rfl rfl ?_
                    exact ih h
                  · rw [if_neg c42] at h
                    refine am_ev_neg c42 ?_
                    cases h
                    exact am_ev_vret 0 0 0 rfl rfl rfl
                · rw [if_neg c35] at h
                  refine am_ev_neg c35 ?_
                  refine am_ev_st 5 (f' := (137, [(6, .int (0 : Int32)), (5, .int (0 : Int32)), (4, .int r7), (0, .ref 19), (1, .int v1_6), (2, .int v2_6), (3, .int v3_6)], [.int (v3_6 + (1 : Int32)), .int v1_6, .ref 19], (W9 N C E F P Q T G U H B_6 O_34 J_6 (vf_6, vu_6, vx_6) Y Z O9), k, n)) (g := True ∧ True ∧ True ∧ True ∧ True ∧ True) (by with_unfolding_all rfl) ⟨trivial, trivial, trivial, trivial, trivial, trivial⟩ ?_
                  replace h := Option.bind_eq_some_iff.mp h
                  obtain ⟨r43, hc43, h⟩ := h
                  try dsimp only at h
                  refine am_ev_call (.invokevirtual 77) 82 4 853 [.ref 19, .int v1_6, .int (v3_6 + (1 : Int32))] [] rfl rfl rfl rfl (ok_fm_endOf hc43 D (by omega)) rfl ?_
                  refine am_ev_st 4 (f' := (146, [(7, .int r43), (6, .int (0 : Int32)), (5, .int (0 : Int32)), (4, .int r7), (0, .ref 19), (1, .int v1_6), (2, .int v2_6), (3, .int v3_6)], [.int r43, .int v1_6, .ref 19], (W9 N C E F P Q T G U H B_6 O_34 J_6 (vf_6, vu_6, vx_6) Y Z O9), k, n)) (g := True ∧ True ∧ True ∧ True ∧ True) (by with_unfolding_all rfl) ⟨trivial, trivial, trivial, trivial, trivial⟩ ?_
                  replace h := Option.bind_eq_some_iff.mp h
                  obtain ⟨r44, hc44, h⟩ := h
                  try dsimp only at h
                  refine am_ev_call (.invokevirtual 77) 82 4 853 [.ref 19, .int v1_6, .int r43] [] rfl rfl rfl rfl (ok_fm_endOf hc44 D (by omega)) rfl ?_
                  refine am_ev_st 4 (f' := (155, [(8, .int r44), (7, .int r43), (6, .int (0 : Int32)), (5, .int (0 : Int32)), (4, .int r7), (0, .ref 19), (1, .int v1_6), (2, .int v2_6), (3, .int v3_6)], [.int r44, .int v1_6, .ref 19], (W9 N C E F P Q T G U H B_6 O_34 J_6 (vf_6, vu_6, vx_6) Y Z O9), k, n)) (g := True ∧ True ∧ True ∧ True ∧ True) (by with_unfolding_all rfl) ⟨trivial, trivial, trivial, trivial, trivial⟩ ?_
                  replace h := Option.bind_eq_some_iff.mp h
                  obtain ⟨r45, hc45, h⟩ := h
                  try dsimp only at h
                  refine am_ev_call (.invokevirtual 77) 82 4 853 [.ref 19, .int v1_6, .int r44] [] rfl rfl rfl rfl (ok_fm_endOf hc45 D (by omega)) rfl ?_
                  refine am_ev_st 7 (f' := (166, [(9, .int r45), (8, .int r44), (7, .int r43), (6, .int (0 : Int32)), (5, .int (0 : Int32)), (4, .int r7), (0, .ref 19), (1, .int v1_6), (2, .int v2_6), (3, .int v3_6)], [.int (v3_6 - (1 : Int32)), .int (0 : Int32), .int v1_6, .ref 19], (W9 N C E F P Q T G U H B_6 O_34 J_6 (vf_6, vu_6, vx_6) Y Z O9), k, n)) (g := True ∧ True ∧ True ∧ True ∧ True ∧ True ∧ True ∧ True) (by with_unfolding_all rfl) ⟨trivial, trivial, trivial, trivial, trivial, trivial, trivial, trivial⟩ ?_
                  replace h := Option.bind_eq_some_iff.mp h
                  obtain ⟨O_46, hc46, h⟩ := h
                  try dsimp only at h
                  refine am_ev_call (.invokevirtual 117) 90 6 869 [.ref 19, .int v1_6, .int (0 : Int32), .int (v3_6 - (1 : Int32))] [] rfl rfl rfl rfl (ok_fm_putAll hc46 D (by omega)) rfl ?_
                  refine am_ev_st 7 (f' := (180, [(9, .int r45), (8, .int r44), (7, .int r43), (6, .int (0 : Int32)), (5, .int (0 : Int32)), (4, .int r7), (0, .ref 19), (1, .int v1_6), (2, .int v2_6), (3, .int v3_6)], [.int r45, .int r44, .int v1_6, .int r44, .int r43, .int v1_6, .ref 19], (W9 N C E F P Q T G U H B_6 O_46 J_6 (vf_6, vu_6, vx_6) Y Z O9), k, n)) (g := True ∧ True ∧ True ∧ True ∧ True ∧ True ∧ True ∧ True) (by with_unfolding_all rfl) ⟨trivial, trivial, trivial, trivial, trivial, trivial, trivial, trivial⟩ ?_
                  replace h := Option.bind_eq_some_iff.mp h
                  obtain ⟨⟨O_47, J_47⟩, hc47, h⟩ := h
                  try dsimp only at h
                  refine am_ev_call (.invokevirtual 121) 92 12 877 [.ref 19, .int v1_6, .int r43, .int r44, .int v1_6, .int r44, .int r45] [] rfl rfl rfl rfl (ok_fm_putFor hc47 D (by omega)) rfl ?_
                  obtain ⟨br_6, bl_6⟩ := B_6
                  try dsimp only at h
                  by_cases g48 : (v1_6 < 0 ∨ 96 ≤ (v1_6).toNatClampNeg)
                  · rw [if_pos g48] at h; cases h
                  rw [if_neg g48] at h
                  refine am_ev_st 7 (f' := (193, [(9, .int r45), (8, .int r44), (7, .int r43), (6, .int (0 : Int32)), (5, .int (0 : Int32)), (4, .int r7), (0, .ref 19), (1, .int v1_6), (2, .int v2_6), (3, .int v3_6)], [.int (bl_6 (v1_6).toNatClampNeg), .int r45, .int v1_6, .ref 19], (W9 N C E F P Q T G U H (br_6, bl_6) O_47 J_47 (vf_6, vu_6, vx_6) Y Z O9), k, n)) (g := True ∧ True ∧ True ∧ True ∧ True ∧ True ∧ vp_in (v1_6) 96 ∧ True) (by with_unfolding_all rfl) ⟨trivial, trivial, trivial, trivial, trivial, trivial, g48, trivial⟩ ?_
                  replace h := Option.bind_eq_some_iff.mp h
                  obtain ⟨O_49, hc49, h⟩ := h
                  try dsimp only at h
                  refine am_ev_call (.invokevirtual 117) 90 6 869 [.ref 19, .int v1_6, .int r45, .int (bl_6 (v1_6).toNatClampNeg)] [] rfl rfl rfl rfl (ok_fm_putAll hc49 D (by omega)) rfl ?_
                  refine am_ev_st 3 (f' := (248, [(9, .int r45), (8, .int r44), (7, .int r43), (6, .int (0 : Int32)), (5, .int (0 : Int32)), (4, .int r7), (0, .ref 19), (1, .int v1_6), (2, .int v2_6), (3, .int v3_6)], [.int v1_6, .ref 19], (W9 N C E F P Q T G U H (br_6, bl_6) O_49 J_47 (vf_6, vu_6, vx_6) Y Z O9), k, n)) (g := True ∧ True ∧ True ∧ True) (by with_unfolding_all rfl) ⟨trivial, trivial, trivial, trivial⟩ ?_
                  replace h := Option.bind_eq_some_iff.mp h
                  obtain ⟨⟨r50, B_50, J_50, V_50⟩, hc50, h⟩ := h
                  try dsimp only at h
                  refine am_ev_call (.invokevirtual 125) 93 2 885 [.ref 19, .int v1_6] [] rfl rfl rfl rfl (ok_fm_take hc50 D (by omega)) rfl ?_
                  refine am_ev_st 1 (f' := am_br ((am_bz r50) ≠ 0) 255 251 [(9, .int r45), (8, .int r44), (7, .int r43), (6, .int (0 : Int32)), (5, .int (0 : Int32)), (4, .int r7), (0, .ref 19), (1, .int v1_6), (2, .int v2_6), (3, .int v3_6)] [] (W9 N C E F P Q T G U H B_50 O_49 J_50 V_50 Y Z O9) k n) (g := True ∧ True) (by with_unfolding_all rfl) ⟨trivial, trivial⟩ ?_
                  by_cases c51 : (am_bz r50) ≠ 0
                  · rw [if_pos c51] at h
                    refine am_ev_pos c51 ?_
                    obtain ⟨vf_50, vu_50, vx_50⟩ := V_50
                    try dsimp only at h
                    refine am_ev_st 7 (f' := (13, [(9, .int r45), (8, .int r44), (7, .int r43), (6, .int (0 : Int32)), (5, .int (0 : Int32)), (4, .int r7), (0, .ref 19), (1, .int v1_6), (2, .int v2_6), (3, .int v3_6)], [], (W9 N C E F P Q T G U H B_50 O_49 J_50 (vf_50, (vu_50 + (1 : Int32)), vx_50) Y Z O9), k, n)) (g := True ∧ True ∧ True ∧ True ∧ True ∧ True ∧ True ∧ True) (by with_unfolding_all rfl) ⟨trivial, trivial, trivial, trivial, trivial, trivial, trivial, trivial⟩ ?_
                    refine am_ev_drop [6, 7, 8] rfl rfl ?_
                    exact ih h
                  · rw [if_neg c51] at h
                    refine am_ev_neg c51 ?_
                    cases h
                    exact am_ev_vret 0 0 0 rfl rfl rfl
              · rw [if_neg c33] at h
                refine am_ev_neg c33 ?_
                refine am_ev_st 3 (f' := (122, [(6, .int (0 : Int32)), (5, .int (0 : Int32)), (4, .int r7), (0, .ref 19), (1, .int v1_6), (2, .int v2_6), (3, .int v3_6)], [], (W9 N C E F P Q T G U H B_6 O_6 J_6 (vf_6, vu_6, (3 : Int32)) Y Z O9), k, n)) (g := True ∧ True ∧ True ∧ True) (by with_unfolding_all rfl) ⟨trivial, trivial, trivial, trivial⟩ ?_
                cases h
                exact am_ev_vret 0 0 0 rfl rfl rfl
            · rw [if_neg c32] at h
              refine am_ev_neg c32 ?_
              cases h
              exact am_ev_vret 0 0 0 rfl rfl rfl
        · rw [if_neg c11] at h
          refine am_ev_neg c11 ?_
          obtain ⟨gc, gb⟩ := G
          try dsimp only at h
          by_cases g52 : ((r7 / (10 : Int32)) < 0 ∨ 16 ≤ ((r7 / (10 : Int32))).toNatClampNeg)
          · rw [if_pos g52] at h; cases h
          rw [if_neg g52] at h
          refine am_ev_st 7 (f' := am_br ((gb ((r7 / (10 : Int32))).toNatClampNeg) = 0) 92 85 [(5, .int (0 : Int32)), (4, .int r7), (0, .ref 19), (1, .int v1_6), (2, .int v2_6), (3, .int v3_6)] [] (W9 N C E F P Q T (gc, gb) U H B_6 O_6 J_6 V_6 Y Z O9) k n) (g := True ∧ True ∧ True ∧ True ∧ ¬ ((10 : Int32) = 0) ∧ vp_in ((r7 / (10 : Int32))) 16 ∧ True ∧ True) (by with_unfolding_all rfl) ⟨trivial, trivial, trivial, trivial, by decide, g52, trivial, trivial⟩ ?_
          by_cases c53 : (gb ((r7 / (10 : Int32))).toNatClampNeg) = 0
          · rw [if_pos c53] at h
            refine am_ev_pos c53 ?_
            refine am_ev_st 4 (f' := am_br ((0 : Int32) ≠ 0) 106 97 [(6, .int (0 : Int32)), (5, .int (0 : Int32)), (4, .int r7), (0, .ref 19), (1, .int v1_6), (2, .int v2_6), (3, .int v3_6)] [] (W9 N C E F P Q T (gc, gb) U H B_6 O_6 J_6 V_6 Y Z O9) k n) (g := True ∧ True ∧ True ∧ True ∧ True) (by with_unfolding_all rfl) ⟨trivial, trivial, trivial, trivial, trivial⟩ ?_
            by_cases c54 : (0 : Int32) ≠ 0
            · rw [if_pos c54] at h
              refine am_ev_pos c54 ?_
              obtain ⟨vf_6, vu_6, vx_6⟩ := V_6
              try dsimp only at h
              refine am_ev_st 5 (f' := am_br (vu_6 ≠ vf_6) 123 114 [(6, .int (0 : Int32)), (5, .int (0 : Int32)), (4, .int r7), (0, .ref 19), (1, .int v1_6), (2, .int v2_6), (3, .int v3_6)] [] (W9 N C E F P Q T (gc, gb) U H B_6 O_6 J_6 (vf_6, vu_6, vx_6) Y Z O9) k n) (g := True ∧ True ∧ True ∧ True ∧ True ∧ True) (by with_unfolding_all rfl) ⟨trivial, trivial, trivial, trivial, trivial, trivial⟩ ?_
              by_cases c55 : vu_6 ≠ vf_6
              · rw [if_pos c55] at h
                refine am_ev_pos c55 ?_
                refine am_ev_st 1 (f' := (124, [(6, .int (0 : Int32)), (5, .int (0 : Int32)), (4, .int r7), (0, .ref 19), (1, .int v1_6), (2, .int v2_6), (3, .int v3_6)], [.ref 19], (W9 N C E F P Q T (gc, gb) U H B_6 O_6 J_6 (vf_6, vu_6, vx_6) Y Z O9), k, n)) (g := True ∧ True) (by with_unfolding_all rfl) ⟨trivial, trivial⟩ ?_
                replace h := Option.bind_eq_some_iff.mp h
                obtain ⟨O_56, hc56, h⟩ := h
                try dsimp only at h
                refine am_ev_call (.invokevirtual 114) 88 0 865 [.ref 19] [] rfl rfl rfl rfl (ok_fm_begin hc56 D (by omega)) rfl ?_
                refine am_ev_st 2 (f' := am_br ((0 : Int32) = 0) 199 129 [(6, .int (0 : Int32)), (5, .int (0 : Int32)), (4, .int r7), (0, .ref 19), (1, .int v1_6), (2, .int v2_6), (3, .int v3_6)] [] (W9 N C E F P Q T (gc, gb) U H B_6 O_56 J_6 (vf_6, vu_6, vx_6) Y Z O9) k n) (g := True ∧ True ∧ True) (by with_unfolding_all rfl) ⟨trivial, trivial, trivial⟩ ?_
                by_cases c57 : (0 : Int32) = 0
                · rw [if_pos c57] at h
                  refine am_ev_pos c57 ?_
                  refine am_ev_st 4 (f' := (203, [(6, .int (0 : Int32)), (5, .int (0 : Int32)), (4, .int r7), (0, .ref 19), (1, .int v1_6), (2, .int v2_6), (3, .int v3_6)], [.int v3_6, .int (0 : Int32), .int v1_6, .ref 19], (W9 N C E F P Q T (gc, gb) U H B_6 O_56 J_6 (vf_6, vu_6, vx_6) Y Z O9), k, n)) (g := True ∧ True ∧ True ∧ True ∧ True) (by with_unfolding_all rfl) ⟨trivial, trivial, trivial, trivial, trivial⟩ ?_
                  replace h := Option.bind_eq_some_iff.mp h
                  obtain ⟨O_58, hc58, h⟩ := h
                  try dsimp only at h
                  refine am_ev_call (.invokevirtual 117) 90 6 869 [.ref 19, .int v1_6, .int (0 : Int32), .int v3_6] [] rfl rfl rfl rfl (ok_fm_putAll hc58 D (by omega)) rfl ?_
                  obtain ⟨br_6, bl_6⟩ := B_6
                  try dsimp only at h
                  by_cases g59 : (((80 : Int32) + (r7 / (10 : Int32))) < 0 ∨ 96 ≤ (((80 : Int32) + (r7 / (10 : Int32)))).toNatClampNeg)
                  · rw [if_pos g59] at h; cases h
                  rw [if_neg g59] at h
                  refine am_ev_st 15 (f' := (229, [(6, .int (0 : Int32)), (5, .int (0 : Int32)), (4, .int r7), (0, .ref 19), (1, .int v1_6), (2, .int v2_6), (3, .int v3_6)], [.int (bl_6 (((80 : Int32) + (r7 / (10 : Int32)))).toNatClampNeg), .int (0 : Int32), .int ((80 : Int32) + (r7 / (10 : Int32))), .ref 19], (W9 N C E F P Q T (gc, gb) U H (br_6, bl_6) O_58 J_6 (vf_6, vu_6, vx_6) Y Z O9), k, n)) (g := True ∧ True ∧ True ∧ True ∧ ¬ ((10 : Int32) = 0) ∧ True ∧ True ∧ True ∧ True ∧ True ∧ True ∧ True ∧ ¬ ((10 : Int32) = 0) ∧ True ∧ vp_in (((80 : Int32) + (r7 / (10 : Int32)))) 96 ∧ True) (by with_unfolding_all rfl) ⟨trivial, trivial, trivial, trivial, by decide, trivial, trivial, trivial, trivial, trivial, trivial, trivial, by decide, trivial, g59, trivial⟩ ?_
                  replace h := Option.bind_eq_some_iff.mp h
                  obtain ⟨O_60, hc60, h⟩ := h
                  try dsimp only at h
                  refine am_ev_call (.invokevirtual 117) 90 6 869 [.ref 19, .int ((80 : Int32) + (r7 / (10 : Int32))), .int (0 : Int32), .int (bl_6 (((80 : Int32) + (r7 / (10 : Int32)))).toNatClampNeg)] [] rfl rfl rfl rfl (ok_fm_putAll hc60 D (by omega)) rfl ?_
                  by_cases g61 : (v1_6 < 0 ∨ 96 ≤ (v1_6).toNatClampNeg)
                  · rw [if_pos g61] at h; cases h
                  rw [if_neg g61] at h
                  refine am_ev_st 9 (f' := (243, [(6, .int (0 : Int32)), (5, .int (0 : Int32)), (4, .int r7), (0, .ref 19), (1, .int v1_6), (2, .int v2_6), (3, .int v3_6)], [.int (bl_6 (v1_6).toNatClampNeg), .int (v3_6 + (1 : Int32)), .int v1_6, .ref 19], (W9 N C E F P Q T (gc, gb) U H (br_6, bl_6) O_60 J_6 (vf_6, vu_6, vx_6) Y Z O9), k, n)) (g := True ∧ True ∧ True ∧ True ∧ True ∧ True ∧ True ∧ True ∧ vp_in (v1_6) 96 ∧ True) (by with_unfolding_all rfl) ⟨trivial, trivial, trivial, trivial, trivial, trivial, trivial, trivial, g61, trivial⟩ ?_
                  replace h := Option.bind_eq_some_iff.mp h
                  obtain ⟨O_62, hc62, h⟩ := h
                  try dsimp only at h
                  refine am_ev_call (.invokevirtual 117) 90 6 869 [.ref 19, .int v1_6, .int (v3_6 + (1 : Int32)), .int (bl_6 (v1_6).toNatClampNeg)] [] rfl rfl rfl rfl (ok_fm_putAll hc62 D (by omega)) rfl ?_
                  refine am_ev_st 2 (f' := (248, [(6, .int (0 : Int32)), (5, .int (0 : Int32)), (4, .int r7), (0, .ref 19), (1, .int v1_6), (2, .int v2_6), (3, .int v3_6)], [.int v1_6, .ref 19], (W9 N C E F P Q T (gc, gb) U H (br_6, bl_6) O_62 J_6 (vf_6, vu_6, vx_6) Y Z O9), k, n)) (g := True ∧ True ∧ True) (by with_unfolding_all rfl) ⟨trivial, trivial, trivial⟩ ?_
                  replace h := Option.bind_eq_some_iff.mp h
                  obtain ⟨⟨r63, B_63, J_63, V_63⟩, hc63, h⟩ := h
                  try dsimp only at h
                  refine am_ev_call (.invokevirtual 125) 93 2 885 [.ref 19, .int v1_6] [] rfl rfl rfl rfl (ok_fm_take hc63 D (by omega)) rfl ?_
                  refine am_ev_st 1 (f' := am_br ((am_bz r63) ≠ 0) 255 251 [(6, .int (0 : Int32)), (5, .int (0 : Int32)), (4, .int r7), (0, .ref 19), (1, .int v1_6), (2, .int v2_6), (3, .int v3_6)] [] (W9 N C E F P Q T (gc, gb) U H B_63 O_62 J_63 V_63 Y Z O9) k n) (g := True ∧ True) (by with_unfolding_all rfl) ⟨trivial, trivial⟩ ?_
                  by_cases c64 : (am_bz r63) ≠ 0
                  · rw [if_pos c64] at h
                    refine am_ev_pos c64 ?_
                    obtain ⟨vf_63, vu_63, vx_63⟩ := V_63
                    try dsimp only at h
                    refine am_ev_st 7 (f' := (13, [(6, .int (0 : Int32)), (5, .int (0 : Int32)), (4, .int r7), (0, .ref 19), (1, .int v1_6), (2, .int v2_6), (3, .int v3_6)], [], (W9 N C E F P Q T (gc, gb) U H B_63 O_62 J_63 (vf_63, (vu_63 + (1 : Int32)), vx_63) Y Z O9), k, n)) (g := True ∧ True ∧ True ∧ True ∧ True ∧ True ∧ True ∧ True) (by with_unfolding_all rfl) ⟨trivial, trivial, trivial, trivial, trivial, trivial, trivial, trivial⟩ ?_
                    refine am_ev_drop [3, 4, 5] rfl rfl ?_
                    exact ih h
                  · rw [if_neg c64] at h
                    refine am_ev_neg c64 ?_
                    cases h
                    exact am_ev_vret 0 0 0 rfl rfl rfl
                · rw [if_neg c57] at h
                  refine am_ev_neg c57 ?_
                  refine am_ev_st 5 (f' := (137, [(6, .int (0 : Int32)), (5, .int (0 : Int32)), (4, .int r7), (0, .ref 19), (1, .int v1_6), (2, .int v2_6), (3, .int v3_6)], [.int (v3_6 + (1 : Int32)), .int v1_6, .ref 19], (W9 N C E F P Q T (gc, gb) U H B_6 O_56 J_6 (vf_6, vu_6, vx_6) Y Z O9), k, n)) (g := True ∧ True ∧ True ∧ True ∧ True ∧ True) (by with_unfolding_all rfl) ⟨trivial, trivial, trivial, trivial, trivial, trivial⟩ ?_
                  replace h := Option.bind_eq_some_iff.mp h
                  obtain ⟨r65, hc65, h⟩ := h
                  try dsimp only at h
                  refine am_ev_call (.invokevirtual 77) 82 4 853 [.ref 19, .int v1_6, .int (v3_6 + (1 : Int32))] [] rfl rfl rfl rfl (ok_fm_endOf hc65 D (by omega)) rfl ?_
                  refine am_ev_st 4 (f' := (146, [(7, .int r65), (6, .int (0 : Int32)), (5, .int (0 : Int32)), (4, .int r7), (0, .ref 19), (1, .int v1_6), (2, .int v2_6), (3, .int v3_6)], [.int r65, .int v1_6, .ref 19], (W9 N C E F P Q T (gc, gb) U H B_6 O_56 J_6 (vf_6, vu_6, vx_6) Y Z O9), k, n)) (g := True ∧ True ∧ True ∧ True ∧ True) (by with_unfolding_all rfl) ⟨trivial, trivial, trivial, trivial, trivial⟩ ?_
                  replace h := Option.bind_eq_some_iff.mp h
                  obtain ⟨r66, hc66, h⟩ := h
                  try dsimp only at h
                  refine am_ev_call (.invokevirtual 77) 82 4 853 [.ref 19, .int v1_6, .int r65] [] rfl rfl rfl rfl (ok_fm_endOf hc66 D (by omega)) rfl ?_
                  refine am_ev_st 4 (f' := (155, [(8, .int r66), (7, .int r65), (6, .int (0 : Int32)), (5, .int (0 : Int32)), (4, .int r7), (0, .ref 19), (1, .int v1_6), (2, .int v2_6), (3, .int v3_6)], [.int r66, .int v1_6, .ref 19], (W9 N C E F P Q T (gc, gb) U H B_6 O_56 J_6 (vf_6, vu_6, vx_6) Y Z O9), k, n)) (g := True ∧ True ∧ True ∧ True ∧ True) (by with_unfolding_all rfl) ⟨trivial, trivial, trivial, trivial, trivial⟩ ?_
                  replace h := Option.bind_eq_some_iff.mp h
                  obtain ⟨r67, hc67, h⟩ := h
                  try dsimp only at h
                  refine am_ev_call (.invokevirtual 77) 82 4 853 [.ref 19, .int v1_6, .int r66] [] rfl rfl rfl rfl (ok_fm_endOf hc67 D (by omega)) rfl ?_
                  refine am_ev_st 7 (f' := (166, [(9, .int r67), (8, .int r66), (7, .int r65), (6, .int (0 : Int32)), (5, .int (0 : Int32)), (4, .int r7), (0, .ref 19), (1, .int v1_6), (2, .int v2_6), (3, .int v3_6)], [.int (v3_6 - (1 : Int32)), .int (0 : Int32), .int v1_6, .ref 19], (W9 N C E F P Q T (gc, gb) U H B_6 O_56 J_6 (vf_6, vu_6, vx_6) Y Z O9), k, n)) (g := True ∧ True ∧ True ∧ True ∧ True ∧ True ∧ True ∧ True) (by with_unfolding_all rfl) ⟨trivial, trivial, trivial, trivial, trivial, trivial, trivial, trivial⟩ ?_
                  replace h := Option.bind_eq_some_iff.mp h
                  obtain ⟨O_68, hc68, h⟩ := h
                  try dsimp only at h
                  refine am_ev_call (.invokevirtual 117) 90 6 869 [.ref 19, .int v1_6, .int (0 : Int32), .int (v3_6 - (1 : Int32))] [] rfl rfl rfl rfl (ok_fm_putAll hc68 D (by omega)) rfl ?_
                  refine am_ev_st 7 (f' := (180, [(9, .int r67), (8, .int r66), (7, .int r65), (6, .int (0 : Int32)), (5, .int (0 : Int32)), (4, .int r7), (0, .ref 19), (1, .int v1_6), (2, .int v2_6), (3, .int v3_6)], [.int r67, .int r66, .int v1_6, .int r66, .int r65, .int v1_6, .ref 19], (W9 N C E F P Q T (gc, gb) U H B_6 O_68 J_6 (vf_6, vu_6, vx_6) Y Z O9), k, n)) (g := True ∧ True ∧ True ∧ True ∧ True ∧ True ∧ True ∧ True) (by with_unfolding_all rfl) ⟨trivial, trivial, trivial, trivial, trivial, trivial, trivial, trivial⟩ ?_
                  replace h := Option.bind_eq_some_iff.mp h
                  obtain ⟨⟨O_69, J_69⟩, hc69, h⟩ := h
                  try dsimp only at h
                  refine am_ev_call (.invokevirtual 121) 92 12 877 [.ref 19, .int v1_6, .int r65, .int r66, .int v1_6, .int r66, .int r67] [] rfl rfl rfl rfl (ok_fm_putFor hc69 D (by omega)) rfl ?_
                  obtain ⟨br_6, bl_6⟩ := B_6
                  try dsimp only at h
                  by_cases g70 : (v1_6 < 0 ∨ 96 ≤ (v1_6).toNatClampNeg)
                  · rw [if_pos g70] at h; cases h
                  rw [if_neg g70] at h
                  refine am_ev_st 7 (f' := (193, [(9, .int r67), (8, .int r66), (7, .int r65), (6, .int (0 : Int32)), (5, .int (0 : Int32)), (4, .int r7), (0, .ref 19), (1, .int v1_6), (2, .int v2_6), (3, .int v3_6)], [.int (bl_6 (v1_6).toNatClampNeg), .int r67, .int v1_6, .ref 19], (W9 N C E F P Q T (gc, gb) U H (br_6, bl_6) O_69 J_69 (vf_6, vu_6, vx_6) Y Z O9), k, n)) (g := True ∧ True ∧ True ∧ True ∧ True ∧ True ∧ vp_in (v1_6) 96 ∧ True) (by with_unfolding_all rfl) ⟨trivial, trivial, trivial, trivial, trivial, trivial, g70, trivial⟩ ?_
                  replace h := Option.bind_eq_some_iff.mp h
                  obtain ⟨O_71, hc71, h⟩ := h
                  try dsimp only at h
                  refine am_ev_call (.invokevirtual 117) 90 6 869 [.ref 19, .int v1_6, .int r67, .int (bl_6 (v1_6).toNatClampNeg)] [] rfl rfl rfl rfl (ok_fm_putAll hc71 D (by omega)) rfl ?_
                  refine am_ev_st 3 (f' := (248, [(9, .int r67), (8, .int r66), (7, .int r65), (6, .int (0 : Int32)), (5, .int (0 : Int32)), (4, .int r7), (0, .ref 19), (1, .int v1_6), (2, .int v2_6), (3, .int v3_6)], [.int v1_6, .ref 19], (W9 N C E F P Q T (gc, gb) U H (br_6, bl_6) O_71 J_69 (vf_6, vu_6, vx_6) Y Z O9), k, n)) (g := True ∧ True ∧ True ∧ True) (by with_unfolding_all rfl) ⟨trivial, trivial, trivial, trivial⟩ ?_
                  replace h := Option.bind_eq_some_iff.mp h
                  obtain ⟨⟨r72, B_72, J_72, V_72⟩, hc72, h⟩ := h
                  try dsimp only at h
                  refine am_ev_call (.invokevirtual 125) 93 2 885 [.ref 19, .int v1_6] [] rfl rfl rfl rfl (ok_fm_take hc72 D (by omega)) rfl ?_
                  refine am_ev_st 1 (f' := am_br ((am_bz r72) ≠ 0) 255 251 [(9, .int r67), (8, .int r66), (7, .int r65), (6, .int (0 : Int32)), (5, .int (0 : Int32)), (4, .int r7), (0, .ref 19), (1, .int v1_6), (2, .int v2_6), (3, .int v3_6)] [] (W9 N C E F P Q T (gc, gb) U H B_72 O_71 J_72 V_72 Y Z O9) k n) (g := True ∧ True) (by with_unfolding_all rfl) ⟨trivial, trivial⟩ ?_
                  by_cases c73 : (am_bz r72) ≠ 0
                  · rw [if_pos c73] at h
                    refine am_ev_pos c73 ?_
                    obtain ⟨vf_72, vu_72, vx_72⟩ := V_72
                    try dsimp only at h
                    refine am_ev_st 7 (f' := (13, [(9, .int r67), (8, .int r66), (7, .int r65), (6, .int (0 : Int32)), (5, .int (0 : Int32)), (4, .int r7), (0, .ref 19), (1, .int v1_6), (2, .int v2_6), (3, .int v3_6)], [], (W9 N C E F P Q T (gc, gb) U H B_72 O_71 J_72 (vf_72, (vu_72 + (1 : Int32)), vx_72) Y Z O9), k, n)) (g := True ∧ True ∧ True ∧ True ∧ True ∧ True ∧ True ∧ True) (by with_unfolding_all rfl) ⟨trivial, trivial, trivial, trivial, trivial, trivial, trivial, trivial⟩ ?_
                    refine am_ev_drop [6, 7, 8] rfl rfl ?_
                    exact ih h
                  · rw [if_neg c73] at h
                    refine am_ev_neg c73 ?_
                    cases h
                    exact am_ev_vret 0 0 0 rfl rfl rfl
              · rw [if_neg c55] at h
                refine am_ev_neg c55 ?_
                refine am_ev_st 3 (f' := (122, [(6, .int (0 : Int32)), (5, .int (0 : Int32)), (4, .int r7), (0, .ref 19), (1, .int v1_6), (2, .int v2_6), (3, .int v3_6)], [], (W9 N C E F P Q T (gc, gb) U H B_6 O_6 J_6 (vf_6, vu_6, (3 : Int32)) Y Z O9), k, n)) (g := True ∧ True ∧ True ∧ True) (by with_unfolding_all rfl) ⟨trivial, trivial, trivial, trivial⟩ ?_
                cases h
                exact am_ev_vret 0 0 0 rfl rfl rfl
            · rw [if_neg c54] at h
              refine am_ev_neg c54 ?_
              refine am_ev_st 2 (f' := am_br ((0 : Int32) ≠ 0) 106 102 [(6, .int (0 : Int32)), (5, .int (0 : Int32)), (4, .int r7), (0, .ref 19), (1, .int v1_6), (2, .int v2_6), (3, .int v3_6)] [] (W9 N C E F P Q T (gc, gb) U H B_6 O_6 J_6 V_6 Y Z O9) k n) (g := True ∧ True ∧ True) (by with_unfolding_all rfl) ⟨trivial, trivial, trivial⟩ ?_
              by_cases c74 : (0 : Int32) ≠ 0
              · rw [if_pos c74] at h
                refine am_ev_pos c74 ?_
                obtain ⟨vf_6, vu_6, vx_6⟩ := V_6
                try dsimp only at h
                refine am_ev_st 5 (f' := am_br (vu_6 ≠ vf_6) 123 114 [(6, .int (0 : Int32)), (5, .int (0 : Int32)), (4, .int r7), (0, .ref 19), (1, .int v1_6), (2, .int v2_6), (3, .int v3_6)] [] (W9 N C E F P Q T (gc, gb) U H B_6 O_6 J_6 (vf_6, vu_6, vx_6) Y Z O9) k n) (g := True ∧ True ∧ True ∧ True ∧ True ∧ True) (by with_unfolding_all rfl) ⟨trivial, trivial, trivial, trivial, trivial, trivial⟩ ?_
                by_cases c75 : vu_6 ≠ vf_6
                · rw [if_pos c75] at h
                  refine am_ev_pos c75 ?_
                  refine am_ev_st 1 (f' := (124, [(6, .int (0 : Int32)), (5, .int (0 : Int32)), (4, .int r7), (0, .ref 19), (1, .int v1_6), (2, .int v2_6), (3, .int v3_6)], [.ref 19], (W9 N C E F P Q T (gc, gb) U H B_6 O_6 J_6 (vf_6, vu_6, vx_6) Y Z O9), k, n)) (g := True ∧ True) (by with_unfolding_all rfl) ⟨trivial, trivial⟩ ?_
                  replace h := Option.bind_eq_some_iff.mp h
                  obtain ⟨O_76, hc76, h⟩ := h
                  try dsimp only at h
                  refine am_ev_call (.invokevirtual 114) 88 0 865 [.ref 19] [] rfl rfl rfl rfl (ok_fm_begin hc76 D (by omega)) rfl ?_
                  refine am_ev_st 2 (f' := am_br ((0 : Int32) = 0) 199 129 [(6, .int (0 : Int32)), (5, .int (0 : Int32)), (4, .int r7), (0, .ref 19), (1, .int v1_6), (2, .int v2_6), (3, .int v3_6)] [] (W9 N C E F P Q T (gc, gb) U H B_6 O_76 J_6 (vf_6, vu_6, vx_6) Y Z O9) k n) (g := True ∧ True ∧ True) (by with_unfolding_all rfl) ⟨trivial, trivial, trivial⟩ ?_
                  by_cases c77 : (0 : Int32) = 0
                  · rw [if_pos c77] at h
                    refine am_ev_pos c77 ?_
                    refine am_ev_st 4 (f' := (203, [(6, .int (0 : Int32)), (5, .int (0 : Int32)), (4, .int r7), (0, .ref 19), (1, .int v1_6), (2, .int v2_6), (3, .int v3_6)], [.int v3_6, .int (0 : Int32), .int v1_6, .ref 19], (W9 N C E F P Q T (gc, gb) U H B_6 O_76 J_6 (vf_6, vu_6, vx_6) Y Z O9), k, n)) (g := True ∧ True ∧ True ∧ True ∧ True) (by with_unfolding_all rfl) ⟨trivial, trivial, trivial, trivial, trivial⟩ ?_
                    replace h := Option.bind_eq_some_iff.mp h
                    obtain ⟨O_78, hc78, h⟩ := h
                    try dsimp only at h
                    refine am_ev_call (.invokevirtual 117) 90 6 869 [.ref 19, .int v1_6, .int (0 : Int32), .int v3_6] [] rfl rfl rfl rfl (ok_fm_putAll hc78 D (by omega)) rfl ?_
                    obtain ⟨br_6, bl_6⟩ := B_6
                    try dsimp only at h
                    by_cases g79 : (((80 : Int32) + (r7 / (10 : Int32))) < 0 ∨ 96 ≤ (((80 : Int32) + (r7 / (10 : Int32)))).toNatClampNeg)
                    · rw [if_pos g79] at h; cases h
                    rw [if_neg g79] at h
                    refine am_ev_st 15 (f' := (229, [(6, .int (0 : Int32)), (5, .int (0 : Int32)), (4, .int r7), (0, .ref 19), (1, .int v1_6), (2, .int v2_6), (3, .int v3_6)], [.int (bl_6 (((80 : Int32) + (r7 / (10 : Int32)))).toNatClampNeg), .int (0 : Int32), .int ((80 : Int32) + (r7 / (10 : Int32))), .ref 19], (W9 N C E F P Q T (gc, gb) U H (br_6, bl_6) O_78 J_6 (vf_6, vu_6, vx_6) Y Z O9), k, n)) (g := True ∧ True ∧ True ∧ True ∧ ¬ ((10 : Int32) = 0) ∧ True ∧ True ∧ True ∧ True ∧ True ∧ True ∧ True ∧ ¬ ((10 : Int32) = 0) ∧ True ∧ vp_in (((80 : Int32) + (r7 / (10 : Int32)))) 96 ∧ True) (by with_unfolding_all rfl) ⟨trivial, trivial, trivial, trivial, by decide, trivial, trivial, trivial, trivial, trivial, trivial, trivial, by decide, trivial, g79, trivial⟩ ?_
                    replace h := Option.bind_eq_some_iff.mp h
                    obtain ⟨O_80, hc80, h⟩ := h
                    try dsimp only at h
                    refine am_ev_call (.invokevirtual 117) 90 6 869 [.ref 19, .int ((80 : Int32) + (r7 / (10 : Int32))), .int (0 : Int32), .int (bl_6 (((80 : Int32) + (r7 / (10 : Int32)))).toNatClampNeg)] [] rfl rfl rfl rfl (ok_fm_putAll hc80 D (by omega)) rfl ?_
                    by_cases g81 : (v1_6 < 0 ∨ 96 ≤ (v1_6).toNatClampNeg)
                    · rw [if_pos g81] at h; cases h
                    rw [if_neg g81] at h
                    refine am_ev_st 9 (f' := (243, [(6, .int (0 : Int32)), (5, .int (0 : Int32)), (4, .int r7), (0, .ref 19), (1, .int v1_6), (2, .int v2_6), (3, .int v3_6)], [.int (bl_6 (v1_6).toNatClampNeg), .int (v3_6 + (1 : Int32)), .int v1_6, .ref 19], (W9 N C E F P Q T (gc, gb) U H (br_6, bl_6) O_80 J_6 (vf_6, vu_6, vx_6) Y Z O9), k, n)) (g := True ∧ True ∧ True ∧ True ∧ True ∧ True ∧ True ∧ True ∧ vp_in (v1_6) 96 ∧ True) (by with_unfolding_all rfl) ⟨trivial, trivial, trivial, trivial, trivial, trivial, trivial, trivial, g81, trivial⟩ ?_
                    replace h := Option.bind_eq_some_iff.mp h
                    obtain ⟨O_82, hc82, h⟩ := h
                    try dsimp only at h
                    refine am_ev_call (.invokevirtual 117) 90 6 869 [.ref 19, .int v1_6, .int (v3_6 + (1 : Int32)), .int (bl_6 (v1_6).toNatClampNeg)] [] rfl rfl rfl rfl (ok_fm_putAll hc82 D (by omega)) rfl ?_
                    refine am_ev_st 2 (f' := (248, [(6, .int (0 : Int32)), (5, .int (0 : Int32)), (4, .int r7), (0, .ref 19), (1, .int v1_6), (2, .int v2_6), (3, .int v3_6)], [.int v1_6, .ref 19], (W9 N C E F P Q T (gc, gb) U H (br_6, bl_6) O_82 J_6 (vf_6, vu_6, vx_6) Y Z O9), k, n)) (g := True ∧ True ∧ True) (by with_unfolding_all rfl) ⟨trivial, trivial, trivial⟩ ?_
                    replace h := Option.bind_eq_some_iff.mp h
                    obtain ⟨⟨r83, B_83, J_83, V_83⟩, hc83, h⟩ := h
                    try dsimp only at h
                    refine am_ev_call (.invokevirtual 125) 93 2 885 [.ref 19, .int v1_6] [] rfl rfl rfl rfl (ok_fm_take hc83 D (by omega)) rfl ?_
                    refine am_ev_st 1 (f' := am_br ((am_bz r83) ≠ 0) 255 251 [(6, .int (0 : Int32)), (5, .int (0 : Int32)), (4, .int r7), (0, .ref 19), (1, .int v1_6), (2, .int v2_6), (3, .int v3_6)] [] (W9 N C E F P Q T (gc, gb) U H B_83 O_82 J_83 V_83 Y Z O9) k n) (g := True ∧ True) (by with_unfolding_all rfl) ⟨trivial, trivial⟩ ?_
                    by_cases c84 : (am_bz r83) ≠ 0
                    · rw [if_pos c84] at h
                      refine am_ev_pos c84 ?_
                      obtain ⟨vf_83, vu_83, vx_83⟩ := V_83
                      try dsimp only at h
                      refine am_ev_st 7 (f' := (13, [(6, .int (0 : Int32)), (5, .int (0 : Int32)), (4, .int r7), (0, .ref 19), (1, .int v1_6), (2, .int v2_6), (3, .int v3_6)], [], (W9 N C E F P Q T (gc, gb) U H B_83 O_82 J_83 (vf_83, (vu_83 + (1 : Int32)), vx_83) Y Z O9), k, n)) (g := True ∧ True ∧ True ∧ True ∧ True ∧ True ∧ True ∧ True) (by with_unfolding_all rfl) ⟨trivial, trivial, trivial, trivial, trivial, trivial, trivial, trivial⟩ ?_
                      refine am_ev_drop [3, 4, 5] rfl rfl ?_
                      exact ih h
                    · rw [if_neg c84] at h
                      refine am_ev_neg c84 ?_
                      cases h
                      exact am_ev_vret 0 0 0 rfl rfl rfl
                  · rw [if_neg c77] at h
                    refine am_ev_neg c77 ?_
                    refine am_ev_st 5 (f' := (137, [(6, .int (0 : Int32)), (5, .int (0 : Int32)), (4, .int r7), (0, .ref 19), (1, .int v1_6), (2, .int v2_6), (3, .int v3_6)], [.int (v3_6 + (1 : Int32)), .int v1_6, .ref 19], (W9 N C E F P Q T (gc, gb) U H B_6 O_76 J_6 (vf_6, vu_6, vx_6) Y Z O9), k, n)) (g := True ∧ True ∧ True ∧ True ∧ True ∧ True) (by with_unfolding_all rfl) ⟨trivial, trivial, trivial, trivial, trivial, trivial⟩ ?_
                    replace h := Option.bind_eq_some_iff.mp h
                    obtain ⟨r85, hc85, h⟩ := h
                    try dsimp only at h
                    refine am_ev_call (.invokevirtual 77) 82 4 853 [.ref 19, .int v1_6, .int (v3_6 + (1 : Int32))] [] rfl rfl rfl rfl (ok_fm_endOf hc85 D (by omega)) rfl ?_
                    refine am_ev_st 4 (f' := (146, [(7, .int r85), (6, .int (0 : Int32)), (5, .int (0 : Int32)), (4, .int r7), (0, .ref 19), (1, .int v1_6), (2, .int v2_6), (3, .int v3_6)], [.int r85, .int v1_6, .ref 19], (W9 N C E F P Q T (gc, gb) U H B_6 O_76 J_6 (vf_6, vu_6, vx_6) Y Z O9), k, n)) (g := True ∧ True ∧ True ∧ True ∧ True) (by with_unfolding_all rfl) ⟨trivial, trivial, trivial, trivial, trivial⟩ ?_
                    replace h := Option.bind_eq_some_iff.mp h
                    obtain ⟨r86, hc86, h⟩ := h
                    try dsimp only at h
                    refine am_ev_call (.invokevirtual 77) 82 4 853 [.ref 19, .int v1_6, .int r85] [] rfl rfl rfl rfl (ok_fm_endOf hc86 D (by omega)) rfl ?_
                    refine am_ev_st 4 (f' := (155, [(8, .int r86), (7, .int r85), (6, .int (0 : Int32)), (5, .int (0 : Int32)), (4, .int r7), (0, .ref 19), (1, .int v1_6), (2, .int v2_6), (3, .int v3_6)], [.int r86, .int v1_6, .ref 19], (W9 N C E F P Q T (gc, gb) U H B_6 O_76 J_6 (vf_6, vu_6, vx_6) Y Z O9), k, n)) (g := True ∧ True ∧ True ∧ True ∧ True) (by with_unfolding_all rfl) ⟨trivial, trivial, trivial, trivial, trivial⟩ ?_
                    replace h := Option.bind_eq_some_iff.mp h
                    obtain ⟨r87, hc87, h⟩ := h
                    try dsimp only at h
                    refine am_ev_call (.invokevirtual 77) 82 4 853 [.ref 19, .int v1_6, .int r86] [] rfl rfl rfl rfl (ok_fm_endOf hc87 D (by omega)) rfl ?_
                    refine am_ev_st 7 (f' := (166, [(9, .int r87), (8, .int r86), (7, .int r85), (6, .int (0 : Int32)), (5, .int (0 : Int32)), (4, .int r7), (0, .ref 19), (1, .int v1_6), (2, .int v2_6), (3, .int v3_6)], [.int (v3_6 - (1 : Int32)), .int (0 : Int32), .int v1_6, .ref 19], (W9 N C E F P Q T (gc, gb) U H B_6 O_76 J_6 (vf_6, vu_6, vx_6) Y Z O9), k, n)) (g := True ∧ True ∧ True ∧ True ∧ True ∧ True ∧ True ∧ True) (by with_unfolding_all rfl) ⟨trivial, trivial, trivial, trivial, trivial, trivial, trivial, trivial⟩ ?_
                    replace h := Option.bind_eq_some_iff.mp h
                    obtain ⟨O_88, hc88, h⟩ := h
                    try dsimp only at h
                    refine am_ev_call (.invokevirtual 117) 90 6 869 [.ref 19, .int v1_6, .int (0 : Int32), .int (v3_6 - (1 : Int32))] [] rfl rfl rfl rfl (ok_fm_putAll hc88 D (by omega)) rfl ?_
                    refine am_ev_st 7 (f' := (180, [(9, .int r87), (8, .int r86), (7, .int r85), (6, .int (0 : Int32)), (5, .int (0 : Int32)), (4, .int r7), (0, .ref 19), (1, .int v1_6), (2, .int v2_6), (3, .int v3_6)], [.int r87, .int r86, .int v1_6, .int r86, .int r85, .int v1_6, .ref 19], (W9 N C E F P Q T (gc, gb) U H B_6 O_88 J_6 (vf_6, vu_6, vx_6) Y Z O9), k, n)) (g := True ∧ True ∧ True ∧ True ∧ True ∧ True ∧ True ∧ True) (by with_unfolding_all rfl) ⟨trivial, trivial, trivial, trivial, trivial, trivial, trivial, trivial⟩ ?_
                    replace h := Option.bind_eq_some_iff.mp h
                    obtain ⟨⟨O_89, J_89⟩, hc89, h⟩ := h
                    try dsimp only at h
                    refine am_ev_call (.invokevirtual 121) 92 12 877 [.ref 19, .int v1_6, .int r85, .int r86, .int v1_6, .int r86, .int r87] [] rfl rfl rfl rfl (ok_fm_putFor hc89 D (by omega)) rfl ?_
                    obtain ⟨br_6, bl_6⟩ := B_6
                    try dsimp only at h
                    by_cases g90 : (v1_6 < 0 ∨ 96 ≤ (v1_6).toNatClampNeg)
                    · rw [if_pos g90] at h; cases h
                    rw [if_neg g90] at h
                    refine am_ev_st 7 (f' := (193, [(9, .int r87), (8, .int r86), (7, .int r85), (6, .int (0 : Int32)), (5, .int (0 : Int32)), (4, .int r7), (0, .ref 19), (1, .int v1_6), (2, .int v2_6), (3, .int v3_6)], [.int (bl_6 (v1_6).toNatClampNeg), .int r87, .int v1_6, .ref 19], (W9 N C E F P Q T (gc, gb) U H (br_6, bl_6) O_89 J_89 (vf_6, vu_6, vx_6) Y Z O9), k, n)) (g := True ∧ True ∧ True ∧ True ∧ True ∧ True ∧ vp_in (v1_6) 96 ∧ True) (by with_unfolding_all rfl) ⟨trivial, trivial, trivial, trivial, trivial, trivial, g90, trivial⟩ ?_
                    replace h := Option.bind_eq_some_iff.mp h
                    obtain ⟨O_91, hc91, h⟩ := h
                    try dsimp only at h
                    refine am_ev_call (.invokevirtual 117) 90 6 869 [.ref 19, .int v1_6, .int r87, .int (bl_6 (v1_6).toNatClampNeg)] [] rfl rfl rfl rfl (ok_fm_putAll hc91 D (by omega)) rfl ?_
                    refine am_ev_st 3 (f' := (248, [(9, .int r87), (8, .int r86), (7, .int r85), (6, .int (0 : Int32)), (5, .int (0 : Int32)), (4, .int r7), (0, .ref 19), (1, .int v1_6), (2, .int v2_6), (3, .int v3_6)], [.int v1_6, .ref 19], (W9 N C E F P Q T (gc, gb) U H (br_6, bl_6) O_91 J_89 (vf_6, vu_6, vx_6) Y Z O9), k, n)) (g := True ∧ True ∧ True ∧ True) (by with_unfolding_all rfl) ⟨trivial, trivial, trivial, trivial⟩ ?_
                    replace h := Option.bind_eq_some_iff.mp h
                    obtain ⟨⟨r92, B_92, J_92, V_92⟩, hc92, h⟩ := h
                    try dsimp only at h
                    refine am_ev_call (.invokevirtual 125) 93 2 885 [.ref 19, .int v1_6] [] rfl rfl rfl rfl (ok_fm_take hc92 D (by omega)) rfl ?_
                    refine am_ev_st 1 (f' := am_br ((am_bz r92) ≠ 0) 255 251 [(9, .int r87), (8, .int r86), (7, .int r85), (6, .int (0 : Int32)), (5, .int (0 : Int32)), (4, .int r7), (0, .ref 19), (1, .int v1_6), (2, .int v2_6), (3, .int v3_6)] [] (W9 N C E F P Q T (gc, gb) U H B_92 O_91 J_92 V_92 Y Z O9) k n) (g := True ∧ True) (by with_unfolding_all rfl) ⟨trivial, trivial⟩ ?_
                    by_cases c93 : (am_bz r92) ≠ 0
                    · rw [if_pos c93] at h
                      refine am_ev_pos c93 ?_
                      obtain ⟨vf_92, vu_92, vx_92⟩ := V_92
                      try dsimp only at h
                      refine am_ev_st 7 (f' := (13, [(9, .int r87), (8, .int r86), (7, .int r85), (6, .int (0 : Int32)), (5, .int (0 : Int32)), (4, .int r7), (0, .ref 19), (1, .int v1_6), (2, .int v2_6), (3, .int v3_6)], [], (W9 N C E F P Q T (gc, gb) U H B_92 O_91 J_92 (vf_92, (vu_92 + (1 : Int32)), vx_92) Y Z O9), k, n)) (g := True ∧ True ∧ True ∧ True ∧ True ∧ True ∧ True ∧ True) (by with_unfolding_all rfl) ⟨trivial, trivial, trivial, trivial, trivial, trivial, trivial, trivial⟩ ?_
                      refine am_ev_drop [6, 7, 8] rfl rfl ?_
                      exact ih h
                    · rw [if_neg c93] at h
                      refine am_ev_neg c93 ?_
                      cases h
                      exact am_ev_vret 0 0 0 rfl rfl rfl
                · rw [if_neg c75] at h
                  refine am_ev_neg c75 ?_
                  refine am_ev_st 3 (f' := (122, [(6, .int (0 : Int32)), (5, .int (0 : Int32)), (4, .int r7), (0, .ref 19), (1, .int v1_6), (2, .int v2_6), (3, .int v3_6)], [], (W9 N C E F P Q T (gc, gb) U H B_6 O_6 J_6 (vf_6, vu_6, (3 : Int32)) Y Z O9), k, n)) (g := True ∧ True ∧ True ∧ True) (by with_unfolding_all rfl) ⟨trivial, trivial, trivial, trivial⟩ ?_
                  cases h
                  exact am_ev_vret 0 0 0 rfl rfl rfl
              · rw [if_neg c74] at h
                refine am_ev_neg c74 ?_
                cases h
                exact am_ev_vret 0 0 0 rfl rfl rfl
          · rw [if_neg c53] at h
            refine am_ev_neg c53 ?_
            refine am_ev_st 5 (f' := am_br ((0 : Int32) ≠ 0) 106 97 [(6, .int (1 : Int32)), (5, .int (0 : Int32)), (4, .int r7), (0, .ref 19), (1, .int v1_6), (2, .int v2_6), (3, .int v3_6)] [] (W9 N C E F P Q T (gc, gb) U H B_6 O_6 J_6 V_6 Y Z O9) k n) (g := True ∧ True ∧ True ∧ True ∧ True ∧ True) (by with_unfolding_all rfl) ⟨trivial, trivial, trivial, trivial, trivial, trivial⟩ ?_
            by_cases c94 : (0 : Int32) ≠ 0
            · rw [if_pos c94] at h
              refine am_ev_pos c94 ?_
              obtain ⟨vf_6, vu_6, vx_6⟩ := V_6
              try dsimp only at h
              refine am_ev_st 5 (f' := am_br (vu_6 ≠ vf_6) 123 114 [(6, .int (1 : Int32)), (5, .int (0 : Int32)), (4, .int r7), (0, .ref 19), (1, .int v1_6), (2, .int v2_6), (3, .int v3_6)] [] (W9 N C E F P Q T (gc, gb) U H B_6 O_6 J_6 (vf_6, vu_6, vx_6) Y Z O9) k n) (g := True ∧ True ∧ True ∧ True ∧ True ∧ True) (by with_unfolding_all rfl) ⟨trivial, trivial, trivial, trivial, trivial, trivial⟩ ?_
              by_cases c95 : vu_6 ≠ vf_6
              · rw [if_pos c95] at h
                refine am_ev_pos c95 ?_
                refine am_ev_st 1 (f' := (124, [(6, .int (1 : Int32)), (5, .int (0 : Int32)), (4, .int r7), (0, .ref 19), (1, .int v1_6), (2, .int v2_6), (3, .int v3_6)], [.ref 19], (W9 N C E F P Q T (gc, gb) U H B_6 O_6 J_6 (vf_6, vu_6, vx_6) Y Z O9), k, n)) (g := True ∧ True) (by with_unfolding_all rfl) ⟨trivial, trivial⟩ ?_
                replace h := Option.bind_eq_some_iff.mp h
                obtain ⟨O_96, hc96, h⟩ := h
                try dsimp only at h
                refine am_ev_call (.invokevirtual 114) 88 0 865 [.ref 19] [] rfl rfl rfl rfl (ok_fm_begin hc96 D (by omega)) rfl ?_
                refine am_ev_st 2 (f' := am_br ((0 : Int32) = 0) 199 129 [(6, .int (1 : Int32)), (5, .int (0 : Int32)), (4, .int r7), (0, .ref 19), (1, .int v1_6), (2, .int v2_6), (3, .int v3_6)] [] (W9 N C E F P Q T (gc, gb) U H B_6 O_96 J_6 (vf_6, vu_6, vx_6) Y Z O9) k n) (g := True ∧ True ∧ True) (by with_unfolding_all rfl) ⟨trivial, trivial, trivial⟩ ?_
                by_cases c97 : (0 : Int32) = 0
                · rw [if_pos c97] at h
                  refine am_ev_pos c97 ?_
                  refine am_ev_st 4 (f' := (203, [(6, .int (1 : Int32)), (5, .int (0 : Int32)), (4, .int r7), (0, .ref 19), (1, .int v1_6), (2, .int v2_6), (3, .int v3_6)], [.int v3_6, .int (0 : Int32), .int v1_6, .ref 19], (W9 N C E F P Q T (gc, gb) U H B_6 O_96 J_6 (vf_6, vu_6, vx_6) Y Z O9), k, n)) (g := True ∧ True ∧ True ∧ True ∧ True) (by with_unfolding_all rfl) ⟨trivial, trivial, trivial, trivial, trivial⟩ ?_
                  replace h := Option.bind_eq_some_iff.mp h
                  obtain ⟨O_98, hc98, h⟩ := h
                  try dsimp only at h
                  refine am_ev_call (.invokevirtual 117) 90 6 869 [.ref 19, .int v1_6, .int (0 : Int32), .int v3_6] [] rfl rfl rfl rfl (ok_fm_putAll hc98 D (by omega)) rfl ?_
                  obtain ⟨br_6, bl_6⟩ := B_6
                  try dsimp only at h
                  by_cases g99 : (((80 : Int32) + (r7 / (10 : Int32))) < 0 ∨ 96 ≤ (((80 : Int32) + (r7 / (10 : Int32)))).toNatClampNeg)
                  · rw [if_pos g99] at h; cases h
                  rw [if_neg g99] at h
                  refine am_ev_st 15 (f' := (229, [(6, .int (1 : Int32)), (5, .int (0 : Int32)), (4, .int r7), (0, .ref 19), (1, .int v1_6), (2, .int v2_6), (3, .int v3_6)], [.int (bl_6 (((80 : Int32) + (r7 / (10 : Int32)))).toNatClampNeg), .int (0 : Int32), .int ((80 : Int32) + (r7 / (10 : Int32))), .ref 19], (W9 N C E F P Q T (gc, gb) U H (br_6, bl_6) O_98 J_6 (vf_6, vu_6, vx_6) Y Z O9), k, n)) (g := True ∧ True ∧ True ∧ True ∧ ¬ ((10 : Int32) = 0) ∧ True ∧ True ∧ True ∧ True ∧ True ∧ True ∧ True ∧ ¬ ((10 : Int32) = 0) ∧ True ∧ vp_in (((80 : Int32) + (r7 / (10 : Int32)))) 96 ∧ True) (by with_unfolding_all rfl) ⟨trivial, trivial, trivial, trivial, by decide, trivial, trivial, trivial, trivial, trivial, trivial, trivial, by decide, trivial, g99, trivial⟩ ?_
                  replace h := Option.bind_eq_some_iff.mp h
                  obtain ⟨O_100, hc100, h⟩ := h
                  try dsimp only at h
                  refine am_ev_call (.invokevirtual 117) 90 6 869 [.ref 19, .int ((80 : Int32) + (r7 / (10 : Int32))), .int (0 : Int32), .int (bl_6 (((80 : Int32) + (r7 / (10 : Int32)))).toNatClampNeg)] [] rfl rfl rfl rfl (ok_fm_putAll hc100 D (by omega)) rfl ?_
                  by_cases g101 : (v1_6 < 0 ∨ 96 ≤ (v1_6).toNatClampNeg)
                  · rw [if_pos g101] at h; cases h
                  rw [if_neg g101] at h
                  refine am_ev_st 9 (f' := (243, [(6, .int (1 : Int32)), (5, .int (0 : Int32)), (4, .int r7), (0, .ref 19), (1, .int v1_6), (2, .int v2_6), (3, .int v3_6)], [.int (bl_6 (v1_6).toNatClampNeg), .int (v3_6 + (1 : Int32)), .int v1_6, .ref 19], (W9 N C E F P Q T (gc, gb) U H (br_6, bl_6) O_100 J_6 (vf_6, vu_6, vx_6) Y Z O9), k, n)) (g := True ∧ True ∧ True ∧ True ∧ True ∧ True ∧ True ∧ True ∧ vp_in (v1_6) 96 ∧ True) (by with_unfolding_all rfl) ⟨trivial, trivial, trivial, trivial, trivial, trivial, trivial, trivial, g101, trivial⟩ ?_
                  replace h := Option.bind_eq_some_iff.mp h
                  obtain ⟨O_102, hc102, h⟩ := h
                  try dsimp only at h
                  refine am_ev_call (.invokevirtual 117) 90 6 869 [.ref 19, .int v1_6, .int (v3_6 + (1 : Int32)), .int (bl_6 (v1_6).toNatClampNeg)] [] rfl rfl rfl rfl (ok_fm_putAll hc102 D (by omega)) rfl ?_
                  refine am_ev_st 2 (f' := (248, [(6, .int (1 : Int32)), (5, .int (0 : Int32)), (4, .int r7), (0, .ref 19), (1, .int v1_6), (2, .int v2_6), (3, .int v3_6)], [.int v1_6, .ref 19], (W9 N C E F P Q T (gc, gb) U H (br_6, bl_6) O_102 J_6 (vf_6, vu_6, vx_6) Y Z O9), k, n)) (g := True ∧ True ∧ True) (by with_unfolding_all rfl) ⟨trivial, trivial, trivial⟩ ?_
                  replace h := Option.bind_eq_some_iff.mp h
                  obtain ⟨⟨r103, B_103, J_103, V_103⟩, hc103, h⟩ := h
                  try dsimp only at h
                  refine am_ev_call (.invokevirtual 125) 93 2 885 [.ref 19, .int v1_6] [] rfl rfl rfl rfl (ok_fm_take hc103 D (by omega)) rfl ?_
                  refine am_ev_st 1 (f' := am_br ((am_bz r103) ≠ 0) 255 251 [(6, .int (1 : Int32)), (5, .int (0 : Int32)), (4, .int r7), (0, .ref 19), (1, .int v1_6), (2, .int v2_6), (3, .int v3_6)] [] (W9 N C E F P Q T (gc, gb) U H B_103 O_102 J_103 V_103 Y Z O9) k n) (g := True ∧ True) (by with_unfolding_all rfl) ⟨trivial, trivial⟩ ?_
                  by_cases c104 : (am_bz r103) ≠ 0
                  · rw [if_pos c104] at h
                    refine am_ev_pos c104 ?_
                    obtain ⟨vf_103, vu_103, vx_103⟩ := V_103
                    try dsimp only at h
                    refine am_ev_st 7 (f' := (13, [(6, .int (1 : Int32)), (5, .int (0 : Int32)), (4, .int r7), (0, .ref 19), (1, .int v1_6), (2, .int v2_6), (3, .int v3_6)], [], (W9 N C E F P Q T (gc, gb) U H B_103 O_102 J_103 (vf_103, (vu_103 + (1 : Int32)), vx_103) Y Z O9), k, n)) (g := True ∧ True ∧ True ∧ True ∧ True ∧ True ∧ True ∧ True) (by with_unfolding_all rfl) ⟨trivial, trivial, trivial, trivial, trivial, trivial, trivial, trivial⟩ ?_
                    refine am_ev_drop [3, 4, 5] rfl rfl ?_
                    exact ih h
                  · rw [if_neg c104] at h
                    refine am_ev_neg c104 ?_
                    cases h
                    exact am_ev_vret 0 0 0 rfl rfl rfl
                · rw [if_neg c97] at h
                  refine am_ev_neg c97 ?_
                  refine am_ev_st 5 (f' := (137, [(6, .int (1 : Int32)), (5, .int (0 : Int32)), (4, .int r7), (0, .ref 19), (1, .int v1_6), (2, .int v2_6), (3, .int v3_6)], [.int (v3_6 + (1 : Int32)), .int v1_6, .ref 19], (W9 N C E F P Q T (gc, gb) U H B_6 O_96 J_6 (vf_6, vu_6, vx_6) Y Z O9), k, n)) (g := True ∧ True ∧ True ∧ True ∧ True ∧ True) (by with_unfolding_all rfl) ⟨trivial, trivial, trivial, trivial, trivial, trivial⟩ ?_
                  replace h := Option.bind_eq_some_iff.mp h
                  obtain ⟨r105, hc105, h⟩ := h
                  try dsimp only at h
                  refine am_ev_call (.invokevirtual 77) 82 4 853 [.ref 19, .int v1_6, .int (v3_6 + (1 : Int32))] [] rfl rfl rfl rfl (ok_fm_endOf hc105 D (by omega)) rfl ?_
                  refine am_ev_st 4 (f' := (146, [(7, .int r105), (6, .int (1 : Int32)), (5, .int (0 : Int32)), (4, .int r7), (0, .ref 19), (1, .int v1_6), (2, .int v2_6), (3, .int v3_6)], [.int r105, .int v1_6, .ref 19], (W9 N C E F P Q T (gc, gb) U H B_6 O_96 J_6 (vf_6, vu_6, vx_6) Y Z O9), k, n)) (g := True ∧ True ∧ True ∧ True ∧ True) (by with_unfolding_all rfl) ⟨trivial, trivial, trivial, trivial, trivial⟩ ?_
                  replace h := Option.bind_eq_some_iff.mp h
                  obtain ⟨r106, hc106, h⟩ := h
                  try dsimp only at h
                  refine am_ev_call (.invokevirtual 77) 82 4 853 [.ref 19, .int v1_6, .int r105] [] rfl rfl rfl rfl (ok_fm_endOf hc106 D (by omega)) rfl ?_
                  refine am_ev_st 4 (f' := (155, [(8, .int r106), (7, .int r105), (6, .int (1 : Int32)), (5, .int (0 : Int32)), (4, .int r7), (0, .ref 19), (1, .int v1_6), (2, .int v2_6), (3, .int v3_6)], [.int r106, .int v1_6, .ref 19], (W9 N C E F P Q T (gc, gb) U H B_6 O_96 J_6 (vf_6, vu_6, vx_6) Y Z O9), k, n)) (g := True ∧ True ∧ True ∧ True ∧ True) (by with_unfolding_all rfl) ⟨trivial, trivial, trivial, trivial, trivial⟩ ?_
                  replace h := Option.bind_eq_some_iff.mp h
                  obtain ⟨r107, hc107, h⟩ := h
                  try dsimp only at h
                  refine am_ev_call (.invokevirtual 77) 82 4 853 [.ref 19, .int v1_6, .int r106] [] rfl rfl rfl rfl (ok_fm_endOf hc107 D (by omega)) rfl ?_
                  refine am_ev_st 7 (f' := (166, [(9, .int r107), (8, .int r106), (7, .int r105), (6, .int (1 : Int32)), (5, .int (0 : Int32)), (4, .int r7), (0, .ref 19), (1, .int v1_6), (2, .int v2_6), (3, .int v3_6)], [.int (v3_6 - (1 : Int32)), .int (0 : Int32), .int v1_6, .ref 19], (W9 N C E F P Q T (gc, gb) U H B_6 O_96 J_6 (vf_6, vu_6, vx_6) Y Z O9), k, n)) (g := True ∧ True ∧ True ∧ True ∧ True ∧ True ∧ True ∧ True) (by with_unfolding_all rfl) ⟨trivial, trivial, trivial, trivial, trivial, trivial, trivial, trivial⟩ ?_
                  replace h := Option.bind_eq_some_iff.mp h
                  obtain ⟨O_108, hc108, h⟩ := h
                  try dsimp only at h
                  refine am_ev_call (.invokevirtual 117) 90 6 869 [.ref 19, .int v1_6, .int (0 : Int32), .int (v3_6 - (1 : Int32))] [] rfl rfl rfl rfl (ok_fm_putAll hc108 D (by omega)) rfl ?_
                  refine am_ev_st 7 (f' := (180, [(9, .int r107), (8, .int r106), (7, .int r105), (6, .int (1 : Int32)), (5, .int (0 : Int32)), (4, .int r7), (0, .ref 19), (1, .int v1_6), (2, .int v2_6), (3, .int v3_6)], [.int r107, .int r106, .int v1_6, .int r106, .int r105, .int v1_6, .ref 19], (W9 N C E F P Q T (gc, gb) U H B_6 O_108 J_6 (vf_6, vu_6, vx_6) Y Z O9), k, n)) (g := True ∧ True ∧ True ∧ True ∧ True ∧ True ∧ True ∧ True) (by with_unfolding_all rfl) ⟨trivial, trivial, trivial, trivial, trivial, trivial, trivial, trivial⟩ ?_
                  replace h := Option.bind_eq_some_iff.mp h
                  obtain ⟨⟨O_109, J_109⟩, hc109, h⟩ := h
                  try dsimp only at h
                  refine am_ev_call (.invokevirtual 121) 92 12 877 [.ref 19, .int v1_6, .int r105, .int r106, .int v1_6, .int r106, .int r107] [] rfl rfl rfl rfl (ok_fm_putFor hc109 D (by omega)) rfl ?_
                  obtain ⟨br_6, bl_6⟩ := B_6
                  try dsimp only at h
                  by_cases g110 : (v1_6 < 0 ∨ 96 ≤ (v1_6).toNatClampNeg)
                  · rw [if_pos g110] at h; cases h
                  rw [if_neg g110] at h
                  refine am_ev_st 7 (f' := (193, [(9, .int r107), (8, .int r106), (7, .int r105), (6, .int (1 : Int32)), (5, .int (0 : Int32)), (4, .int r7), (0, .ref 19), (1, .int v1_6), (2, .int v2_6), (3, .int v3_6)], [.int (bl_6 (v1_6).toNatClampNeg), .int r107, .int v1_6, .ref 19], (W9 N C E F P Q T (gc, gb) U H (br_6, bl_6) O_109 J_109 (vf_6, vu_6, vx_6) Y Z O9), k, n)) (g := True ∧ True ∧ True ∧ True ∧ True ∧ True ∧ vp_in (v1_6) 96 ∧ True) (by with_unfolding_all rfl) ⟨trivial, trivial, trivial, trivial, trivial, trivial, g110, trivial⟩ ?_
                  replace h := Option.bind_eq_some_iff.mp h
                  obtain ⟨O_111, hc111, h⟩ := h
                  try dsimp only at h
                  refine am_ev_call (.invokevirtual 117) 90 6 869 [.ref 19, .int v1_6, .int r107, .int (bl_6 (v1_6).toNatClampNeg)] [] rfl rfl rfl rfl (ok_fm_putAll hc111 D (by omega)) rfl ?_
                  refine am_ev_st 3 (f' := (248, [(9, .int r107), (8, .int r106), (7, .int r105), (6, .int (1 : Int32)), (5, .int (0 : Int32)), (4, .int r7), (0, .ref 19), (1, .int v1_6), (2, .int v2_6), (3, .int v3_6)], [.int v1_6, .ref 19], (W9 N C E F P Q T (gc, gb) U H (br_6, bl_6) O_111 J_109 (vf_6, vu_6, vx_6) Y Z O9), k, n)) (g := True ∧ True ∧ True ∧ True) (by with_unfolding_all rfl) ⟨trivial, trivial, trivial, trivial⟩ ?_
                  replace h := Option.bind_eq_some_iff.mp h
                  obtain ⟨⟨r112, B_112, J_112, V_112⟩, hc112, h⟩ := h
                  try dsimp only at h
                  refine am_ev_call (.invokevirtual 125) 93 2 885 [.ref 19, .int v1_6] [] rfl rfl rfl rfl (ok_fm_take hc112 D (by omega)) rfl ?_
                  refine am_ev_st 1 (f' := am_br ((am_bz r112) ≠ 0) 255 251 [(9, .int r107), (8, .int r106), (7, .int r105), (6, .int (1 : Int32)), (5, .int (0 : Int32)), (4, .int r7), (0, .ref 19), (1, .int v1_6), (2, .int v2_6), (3, .int v3_6)] [] (W9 N C E F P Q T (gc, gb) U H B_112 O_111 J_112 V_112 Y Z O9) k n) (g := True ∧ True) (by with_unfolding_all rfl) ⟨trivial, trivial⟩ ?_
                  by_cases c113 : (am_bz r112) ≠ 0
                  · rw [if_pos c113] at h
                    refine am_ev_pos c113 ?_
                    obtain ⟨vf_112, vu_112, vx_112⟩ := V_112
                    try dsimp only at h
                    refine am_ev_st 7 (f' := (13, [(9, .int r107), (8, .int r106), (7, .int r105), (6, .int (1 : Int32)), (5, .int (0 : Int32)), (4, .int r7), (0, .ref 19), (1, .int v1_6), (2, .int v2_6), (3, .int v3_6)], [], (W9 N C E F P Q T (gc, gb) U H B_112 O_111 J_112 (vf_112, (vu_112 + (1 : Int32)), vx_112) Y Z O9), k, n)) (g := True ∧ True ∧ True ∧ True ∧ True ∧ True ∧ True ∧ True) (by with_unfolding_all rfl) ⟨trivial, trivial, trivial, trivial, trivial, trivial, trivial, trivial⟩ ?_
                    refine am_ev_drop [6, 7, 8] rfl rfl ?_
                    exact ih h
                  · rw [if_neg c113] at h
                    refine am_ev_neg c113 ?_
                    cases h
                    exact am_ev_vret 0 0 0 rfl rfl rfl
              · rw [if_neg c95] at h
                refine am_ev_neg c95 ?_
                refine am_ev_st 3 (f' := (122, [(6, .int (1 : Int32)), (5, .int (0 : Int32)), (4, .int r7), (0, .ref 19), (1, .int v1_6), (2, .int v2_6), (3, .int v3_6)], [], (W9 N C E F P Q T (gc, gb) U H B_6 O_6 J_6 (vf_6, vu_6, (3 : Int32)) Y Z O9), k, n)) (g := True ∧ True ∧ True ∧ True) (by with_unfolding_all rfl) ⟨trivial, trivial, trivial, trivial⟩ ?_
                cases h
                exact am_ev_vret 0 0 0 rfl rfl rfl
            · rw [if_neg c94] at h
              refine am_ev_neg c94 ?_
              refine am_ev_st 2 (f' := am_br ((1 : Int32) ≠ 0) 106 102 [(6, .int (1 : Int32)), (5, .int (0 : Int32)), (4, .int r7), (0, .ref 19), (1, .int v1_6), (2, .int v2_6), (3, .int v3_6)] [] (W9 N C E F P Q T (gc, gb) U H B_6 O_6 J_6 V_6 Y Z O9) k n) (g := True ∧ True ∧ True) (by with_unfolding_all rfl) ⟨trivial, trivial, trivial⟩ ?_
              by_cases c114 : (1 : Int32) ≠ 0
              · rw [if_pos c114] at h
                refine am_ev_pos c114 ?_
                obtain ⟨vf_6, vu_6, vx_6⟩ := V_6
                try dsimp only at h
                refine am_ev_st 5 (f' := am_br (vu_6 ≠ vf_6) 123 114 [(6, .int (1 : Int32)), (5, .int (0 : Int32)), (4, .int r7), (0, .ref 19), (1, .int v1_6), (2, .int v2_6), (3, .int v3_6)] [] (W9 N C E F P Q T (gc, gb) U H B_6 O_6 J_6 (vf_6, vu_6, vx_6) Y Z O9) k n) (g := True ∧ True ∧ True ∧ True ∧ True ∧ True) (by with_unfolding_all rfl) ⟨trivial, trivial, trivial, trivial, trivial, trivial⟩ ?_
                by_cases c115 : vu_6 ≠ vf_6
                · rw [if_pos c115] at h
                  refine am_ev_pos c115 ?_
                  refine am_ev_st 1 (f' := (124, [(6, .int (1 : Int32)), (5, .int (0 : Int32)), (4, .int r7), (0, .ref 19), (1, .int v1_6), (2, .int v2_6), (3, .int v3_6)], [.ref 19], (W9 N C E F P Q T (gc, gb) U H B_6 O_6 J_6 (vf_6, vu_6, vx_6) Y Z O9), k, n)) (g := True ∧ True) (by with_unfolding_all rfl) ⟨trivial, trivial⟩ ?_
                  replace h := Option.bind_eq_some_iff.mp h
                  obtain ⟨O_116, hc116, h⟩ := h
                  try dsimp only at h
                  refine am_ev_call (.invokevirtual 114) 88 0 865 [.ref 19] [] rfl rfl rfl rfl (ok_fm_begin hc116 D (by omega)) rfl ?_
                  refine am_ev_st 2 (f' := am_br ((0 : Int32) = 0) 199 129 [(6, .int (1 : Int32)), (5, .int (0 : Int32)), (4, .int r7), (0, .ref 19), (1, .int v1_6), (2, .int v2_6), (3, .int v3_6)] [] (W9 N C E F P Q T (gc, gb) U H B_6 O_116 J_6 (vf_6, vu_6, vx_6) Y Z O9) k n) (g := True ∧ True ∧ True) (by with_unfolding_all rfl) ⟨trivial, trivial, trivial⟩ ?_
                  by_cases c117 : (0 : Int32) = 0
                  · rw [if_pos c117] at h
                    refine am_ev_pos c117 ?_
                    refine am_ev_st 4 (f' := (203, [(6, .int (1 : Int32)), (5, .int (0 : Int32)), (4, .int r7), (0, .ref 19), (1, .int v1_6), (2, .int v2_6), (3, .int v3_6)], [.int v3_6, .int (0 : Int32), .int v1_6, .ref 19], (W9 N C E F P Q T (gc, gb) U H B_6 O_116 J_6 (vf_6, vu_6, vx_6) Y Z O9), k, n)) (g := True ∧ True ∧ True ∧ True ∧ True) (by with_unfolding_all rfl) ⟨trivial, trivial, trivial, trivial, trivial⟩ ?_
                    replace h := Option.bind_eq_some_iff.mp h
                    obtain ⟨O_118, hc118, h⟩ := h
                    try dsimp only at h
                    refine am_ev_call (.invokevirtual 117) 90 6 869 [.ref 19, .int v1_6, .int (0 : Int32), .int v3_6] [] rfl rfl rfl rfl (ok_fm_putAll hc118 D (by omega)) rfl ?_
                    obtain ⟨br_6, bl_6⟩ := B_6
                    try dsimp only at h
                    by_cases g119 : (((80 : Int32) + (r7 / (10 : Int32))) < 0 ∨ 96 ≤ (((80 : Int32) + (r7 / (10 : Int32)))).toNatClampNeg)
                    · rw [if_pos g119] at h; cases h
                    rw [if_neg g119] at h
                    refine am_ev_st 15 (f' := (229, [(6, .int (1 : Int32)), (5, .int (0 : Int32)), (4, .int r7), (0, .ref 19), (1, .int v1_6), (2, .int v2_6), (3, .int v3_6)], [.int (bl_6 (((80 : Int32) + (r7 / (10 : Int32)))).toNatClampNeg), .int (0 : Int32), .int ((80 : Int32) + (r7 / (10 : Int32))), .ref 19], (W9 N C E F P Q T (gc, gb) U H (br_6, bl_6) O_118 J_6 (vf_6, vu_6, vx_6) Y Z O9), k, n)) (g := True ∧ True ∧ True ∧ True ∧ ¬ ((10 : Int32) = 0) ∧ True ∧ True ∧ True ∧ True ∧ True ∧ True ∧ True ∧ ¬ ((10 : Int32) = 0) ∧ True ∧ vp_in (((80 : Int32) + (r7 / (10 : Int32)))) 96 ∧ True) (by with_unfolding_all rfl) ⟨trivial, trivial, trivial, trivial, by decide, trivial, trivial, trivial, trivial, trivial, trivial, trivial, by decide, trivial, g119, trivial⟩ ?_
                    replace h := Option.bind_eq_some_iff.mp h
                    obtain ⟨O_120, hc120, h⟩ := h
                    try dsimp only at h
                    refine am_ev_call (.invokevirtual 117) 90 6 869 [.ref 19, .int ((80 : Int32) + (r7 / (10 : Int32))), .int (0 : Int32), .int (bl_6 (((80 : Int32) + (r7 / (10 : Int32)))).toNatClampNeg)] [] rfl rfl rfl rfl (ok_fm_putAll hc120 D (by omega)) rfl ?_
                    by_cases g121 : (v1_6 < 0 ∨ 96 ≤ (v1_6).toNatClampNeg)
                    · rw [if_pos g121] at h; cases h
                    rw [if_neg g121] at h
                    refine am_ev_st 9 (f' := (243, [(6, .int (1 : Int32)), (5, .int (0 : Int32)), (4, .int r7), (0, .ref 19), (1, .int v1_6), (2, .int v2_6), (3, .int v3_6)], [.int (bl_6 (v1_6).toNatClampNeg), .int (v3_6 + (1 : Int32)), .int v1_6, .ref 19], (W9 N C E F P Q T (gc, gb) U H (br_6, bl_6) O_120 J_6 (vf_6, vu_6, vx_6) Y Z O9), k, n)) (g := True ∧ True ∧ True ∧ True ∧ True ∧ True ∧ True ∧ True ∧ vp_in (v1_6) 96 ∧ True) (by with_unfolding_all rfl) ⟨trivial, trivial, trivial, trivial, trivial, trivial, trivial, trivial, g121, trivial⟩ ?_
                    replace h := Option.bind_eq_some_iff.mp h
                    obtain ⟨O_122, hc122, h⟩ := h
                    try dsimp only at h
                    refine am_ev_call (.invokevirtual 117) 90 6 869 [.ref 19, .int v1_6, .int (v3_6 + (1 : Int32)), .int (bl_6 (v1_6).toNatClampNeg)] [] rfl rfl rfl rfl (ok_fm_putAll hc122 D (by omega)) rfl ?_
                    refine am_ev_st 2 (f' := (248, [(6, .int (1 : Int32)), (5, .int (0 : Int32)), (4, .int r7), (0, .ref 19), (1, .int v1_6), (2, .int v2_6), (3, .int v3_6)], [.int v1_6, .ref 19], (W9 N C E F P Q T (gc, gb) U H (br_6, bl_6) O_122 J_6 (vf_6, vu_6, vx_6) Y Z O9), k, n)) (g := True ∧ True ∧ True) (by with_unfolding_all rfl) ⟨trivial, trivial, trivial⟩ ?_
                    replace h := Option.bind_eq_some_iff.mp h
                    obtain ⟨⟨r123, B_123, J_123, V_123⟩, hc123, h⟩ := h
                    try dsimp only at h
                    refine am_ev_call (.invokevirtual 125) 93 2 885 [.ref 19, .int v1_6] [] rfl rfl rfl rfl (ok_fm_take hc123 D (by omega)) rfl ?_
                    refine am_ev_st 1 (f' := am_br ((am_bz r123) ≠ 0) 255 251 [(6, .int (1 : Int32)), (5, .int (0 : Int32)), (4, .int r7), (0, .ref 19), (1, .int v1_6), (2, .int v2_6), (3, .int v3_6)] [] (W9 N C E F P Q T (gc, gb) U H B_123 O_122 J_123 V_123 Y Z O9) k n) (g := True ∧ True) (by with_unfolding_all rfl) ⟨trivial, trivial⟩ ?_
                    by_cases c124 : (am_bz r123) ≠ 0
                    · rw [if_pos c124] at h
                      refine am_ev_pos c124 ?_
                      obtain ⟨vf_123, vu_123, vx_123⟩ := V_123
                      try dsimp only at h
                      refine am_ev_st 7 (f' := (13, [(6, .int (1 : Int32)), (5, .int (0 : Int32)), (4, .int r7), (0, .ref 19), (1, .int v1_6), (2, .int v2_6), (3, .int v3_6)], [], (W9 N C E F P Q T (gc, gb) U H B_123 O_122 J_123 (vf_123, (vu_123 + (1 : Int32)), vx_123) Y Z O9), k, n)) (g := True ∧ True ∧ True ∧ True ∧ True ∧ True ∧ True ∧ True) (by with_unfolding_all rfl) ⟨trivial, trivial, trivial, trivial, trivial, trivial, trivial, trivial⟩ ?_
                      refine am_ev_drop [3, 4, 5] rfl rfl ?_
                      exact ih h
                    · rw [if_neg c124] at h
                      refine am_ev_neg c124 ?_
                      cases h
                      exact am_ev_vret 0 0 0 rfl rfl rfl
                  · rw [if_neg c117] at h
                    refine am_ev_neg c117 ?_
                    refine am_ev_st 5 (f' := (137, [(6, .int (1 : Int32)), (5, .int (0 : Int32)), (4, .int r7), (0, .ref 19), (1, .int v1_6), (2, .int v2_6), (3, .int v3_6)], [.int (v3_6 + (1 : Int32)), .int v1_6, .ref 19], (W9 N C E F P Q T (gc, gb) U H B_6 O_116 J_6 (vf_6, vu_6, vx_6) Y Z O9), k, n)) (g := True ∧ True ∧ True ∧ True ∧ True ∧ True) (by with_unfolding_all rfl) ⟨trivial, trivial, trivial, trivial, trivial, trivial⟩ ?_
                    replace h := Option.bind_eq_some_iff.mp h
                    obtain ⟨r125, hc125, h⟩ := h
                    try dsimp only at h
                    refine am_ev_call (.invokevirtual 77) 82 4 853 [.ref 19, .int v1_6, .int (v3_6 + (1 : Int32))] [] rfl rfl rfl rfl (ok_fm_endOf hc125 D (by omega)) rfl ?_
                    refine am_ev_st 4 (f' := (146, [(7, .int r125), (6, .int (1 : Int32)), (5, .int (0 : Int32)), (4, .int r7), (0, .ref 19), (1, .int v1_6), (2, .int v2_6), (3, .int v3_6)], [.int r125, .int v1_6, .ref 19], (W9 N C E F P Q T (gc, gb) U H B_6 O_116 J_6 (vf_6, vu_6, vx_6) Y Z O9), k, n)) (g := True ∧ True ∧ True ∧ True ∧ True) (by with_unfolding_all rfl) ⟨trivial, trivial, trivial, trivial, trivial⟩ ?_
                    replace h := Option.bind_eq_some_iff.mp h
                    obtain ⟨r126, hc126, h⟩ := h
                    try dsimp only at h
                    refine am_ev_call (.invokevirtual 77) 82 4 853 [.ref 19, .int v1_6, .int r125] [] rfl rfl rfl rfl (ok_fm_endOf hc126 D (by omega)) rfl ?_
                    refine am_ev_st 4 (f' := (155, [(8, .int r126), (7, .int r125), (6, .int (1 : Int32)), (5, .int (0 : Int32)), (4, .int r7), (0, .ref 19), (1, .int v1_6), (2, .int v2_6), (3, .int v3_6)], [.int r126, .int v1_6, .ref 19], (W9 N C E F P Q T (gc, gb) U H B_6 O_116 J_6 (vf_6, vu_6, vx_6) Y Z O9), k, n)) (g := True ∧ True ∧ True ∧ True ∧ True) (by with_unfolding_all rfl) ⟨trivial, trivial, trivial, trivial, trivial⟩ ?_
                    replace h := Option.bind_eq_some_iff.mp h
                    obtain ⟨r127, hc127, h⟩ := h
                    try dsimp only at h
                    refine am_ev_call (.invokevirtual 77) 82 4 853 [.ref 19, .int v1_6, .int r126] [] rfl rfl rfl rfl (ok_fm_endOf hc127 D (by omega)) rfl ?_
                    refine am_ev_st 7 (f' := (166, [(9, .int r127), (8, .int r126), (7, .int r125), (6, .int (1 : Int32)), (5, .int (0 : Int32)), (4, .int r7), (0, .ref 19), (1, .int v1_6), (2, .int v2_6), (3, .int v3_6)], [.int (v3_6 - (1 : Int32)), .int (0 : Int32), .int v1_6, .ref 19], (W9 N C E F P Q T (gc, gb) U H B_6 O_116 J_6 (vf_6, vu_6, vx_6) Y Z O9), k, n)) (g := True ∧ True ∧ True ∧ True ∧ True ∧ True ∧ True ∧ True) (by with_unfolding_all rfl) ⟨trivial, trivial, trivial, trivial, trivial, trivial, trivial, trivial⟩ ?_
                    replace h := Option.bind_eq_some_iff.mp h
                    obtain ⟨O_128, hc128, h⟩ := h
                    try dsimp only at h
                    refine am_ev_call (.invokevirtual 117) 90 6 869 [.ref 19, .int v1_6, .int (0 : Int32), .int (v3_6 - (1 : Int32))] [] rfl rfl rfl rfl (ok_fm_putAll hc128 D (by omega)) rfl ?_
                    refine am_ev_st 7 (f' := (180, [(9, .int r127), (8, .int r126), (7, .int r125), (6, .int (1 : Int32)), (5, .int (0 : Int32)), (4, .int r7), (0, .ref 19), (1, .int v1_6), (2, .int v2_6), (3, .int v3_6)], [.int r127, .int r126, .int v1_6, .int r126, .int r125, .int v1_6, .ref 19], (W9 N C E F P Q T (gc, gb) U H B_6 O_128 J_6 (vf_6, vu_6, vx_6) Y Z O9), k, n)) (g := True ∧ True ∧ True ∧ True ∧ True ∧ True ∧ True ∧ True) (by with_unfolding_all rfl) ⟨trivial, trivial, trivial, trivial, trivial, trivial, trivial, trivial⟩ ?_
                    replace h := Option.bind_eq_some_iff.mp h
                    obtain ⟨⟨O_129, J_129⟩, hc129, h⟩ := h
                    try dsimp only at h
                    refine am_ev_call (.invokevirtual 121) 92 12 877 [.ref 19, .int v1_6, .int r125, .int r126, .int v1_6, .int r126, .int r127] [] rfl rfl rfl rfl (ok_fm_putFor hc129 D (by omega)) rfl ?_
                    obtain ⟨br_6, bl_6⟩ := B_6
                    try dsimp only at h
                    by_cases g130 : (v1_6 < 0 ∨ 96 ≤ (v1_6).toNatClampNeg)
                    · rw [if_pos g130] at h; cases h
                    rw [if_neg g130] at h
                    refine am_ev_st 7 (f' := (193, [(9, .int r127), (8, .int r126), (7, .int r125), (6, .int (1 : Int32)), (5, .int (0 : Int32)), (4, .int r7), (0, .ref 19), (1, .int v1_6), (2, .int v2_6), (3, .int v3_6)], [.int (bl_6 (v1_6).toNatClampNeg), .int r127, .int v1_6, .ref 19], (W9 N C E F P Q T (gc, gb) U H (br_6, bl_6) O_129 J_129 (vf_6, vu_6, vx_6) Y Z O9), k, n)) (g := True ∧ True ∧ True ∧ True ∧ True ∧ True ∧ vp_in (v1_6) 96 ∧ True) (by with_unfolding_all rfl) ⟨trivial, trivial, trivial, trivial, trivial, trivial, g130, trivial⟩ ?_
                    replace h := Option.bind_eq_some_iff.mp h
                    obtain ⟨O_131, hc131, h⟩ := h
                    try dsimp only at h
                    refine am_ev_call (.invokevirtual 117) 90 6 869 [.ref 19, .int v1_6, .int r127, .int (bl_6 (v1_6).toNatClampNeg)] [] rfl rfl rfl rfl (ok_fm_putAll hc131 D (by omega)) rfl ?_
                    refine am_ev_st 3 (f' := (248, [(9, .int r127), (8, .int r126), (7, .int r125), (6, .int (1 : Int32)), (5, .int (0 : Int32)), (4, .int r7), (0, .ref 19), (1, .int v1_6), (2, .int v2_6), (3, .int v3_6)], [.int v1_6, .ref 19], (W9 N C E F P Q T (gc, gb) U H (br_6, bl_6) O_131 J_129 (vf_6, vu_6, vx_6) Y Z O9), k, n)) (g := True ∧ True ∧ True ∧ True) (by with_unfolding_all rfl) ⟨trivial, trivial, trivial, trivial⟩ ?_
                    replace h := Option.bind_eq_some_iff.mp h
                    obtain ⟨⟨r132, B_132, J_132, V_132⟩, hc132, h⟩ := h
                    try dsimp only at h
                    refine am_ev_call (.invokevirtual 125) 93 2 885 [.ref 19, .int v1_6] [] rfl rfl rfl rfl (ok_fm_take hc132 D (by omega)) rfl ?_
                    refine am_ev_st 1 (f' := am_br ((am_bz r132) ≠ 0) 255 251 [(9, .int r127), (8, .int r126), (7, .int r125), (6, .int (1 : Int32)), (5, .int (0 : Int32)), (4, .int r7), (0, .ref 19), (1, .int v1_6), (2, .int v2_6), (3, .int v3_6)] [] (W9 N C E F P Q T (gc, gb) U H B_132 O_131 J_132 V_132 Y Z O9) k n) (g := True ∧ True) (by with_unfolding_all rfl) ⟨trivial, trivial⟩ ?_
                    by_cases c133 : (am_bz r132) ≠ 0
                    · rw [if_pos c133] at h
                      refine am_ev_pos c133 ?_
                      obtain ⟨vf_132, vu_132, vx_132⟩ := V_132
                      try dsimp only at h
                      refine am_ev_st 7 (f' := (13, [(9, .int r127), (8, .int r126), (7, .int r125), (6, .int (1 : Int32)), (5, .int (0 : Int32)), (4, .int r7), (0, .ref 19), (1, .int v1_6), (2, .int v2_6), (3, .int v3_6)], [], (W9 N C E F P Q T (gc, gb) U H B_132 O_131 J_132 (vf_132, (vu_132 + (1 : Int32)), vx_132) Y Z O9), k, n)) (g := True ∧ True ∧ True ∧ True ∧ True ∧ True ∧ True ∧ True) (by with_unfolding_all rfl) ⟨trivial, trivial, trivial, trivial, trivial, trivial, trivial, trivial⟩ ?_
                      refine am_ev_drop [6, 7, 8] rfl rfl ?_
                      exact ih h
                    · rw [if_neg c133] at h
                      refine am_ev_neg c133 ?_
                      cases h
                      exact am_ev_vret 0 0 0 rfl rfl rfl
                · rw [if_neg c115] at h
                  refine am_ev_neg c115 ?_
                  refine am_ev_st 3 (f' := (122, [(6, .int (1 : Int32)), (5, .int (0 : Int32)), (4, .int r7), (0, .ref 19), (1, .int v1_6), (2, .int v2_6), (3, .int v3_6)], [], (W9 N C E F P Q T (gc, gb) U H B_6 O_6 J_6 (vf_6, vu_6, (3 : Int32)) Y Z O9), k, n)) (g := True ∧ True ∧ True ∧ True) (by with_unfolding_all rfl) ⟨trivial, trivial, trivial, trivial⟩ ?_
                  cases h
                  exact am_ev_vret 0 0 0 rfl rfl rfl
              · rw [if_neg c114] at h
                refine am_ev_neg c114 ?_
                cases h
                exact am_ev_vret 0 0 0 rfl rfl rfl
      · rw [if_neg c9] at h
        refine am_ev_neg c9 ?_
        refine am_ev_st 2 (f' := am_br (v3_6 ≤ 0) 63 56 [(4, .int r7), (0, .ref 19), (1, .int v1_6), (2, .int v2_6), (3, .int v3_6)] [] (W9 N C E F P Q T G U H B_6 O_6 J_6 V_6 Y Z O9) k n) (g := True ∧ True ∧ True) (by with_unfolding_all rfl) ⟨trivial, trivial, trivial⟩ ?_
        by_cases c134 : v3_6 ≤ 0
        · rw [if_pos c134] at h
          refine am_ev_pos c134 ?_
          refine am_ev_st 3 (f' := (68, [(5, .int (0 : Int32)), (4, .int r7), (0, .ref 19), (1, .int v1_6), (2, .int v2_6), (3, .int v3_6)], [.int r7], (W9 N C E F P Q T G U H B_6 O_6 J_6 V_6 Y Z O9), k, n)) (g := True ∧ True ∧ True ∧ True) (by with_unfolding_all rfl) ⟨trivial, trivial, trivial, trivial⟩ ?_
          replace h := Option.bind_eq_some_iff.mp h
          obtain ⟨r135, hc135, h⟩ := h
          try dsimp only at h
          refine am_ev_call (.invokestatic 80) 78 2 824 [.int r7] [] rfl rfl rfl rfl (ok_fm_kindOf hc135 D (by omega)) rfl ?_
          refine am_ev_st 2 (f' := am_br (r135 ≠ (5 : Int32)) 92 72 [(5, .int (0 : Int32)), (4, .int r7), (0, .ref 19), (1, .int v1_6), (2, .int v2_6), (3, .int v3_6)] [] (W9 N C E F P Q T G U H B_6 O_6 J_6 V_6 Y Z O9) k n) (g := True ∧ True ∧ True) (by with_unfolding_all rfl) ⟨trivial, trivial, trivial⟩ ?_
          by_cases c136 : r135 ≠ (5 : Int32)
          · rw [if_pos c136] at h
            refine am_ev_pos c136 ?_
            refine am_ev_st 4 (f' := am_br ((0 : Int32) ≠ 0) 106 97 [(6, .int (0 : Int32)), (5, .int (0 : Int32)), (4, .int r7), (0, .ref 19), (1, .int v1_6), (2, .int v2_6), (3, .int v3_6)] [] (W9 N C E F P Q T G U H B_6 O_6 J_6 V_6 Y Z O9) k n) (g := True ∧ True ∧ True ∧ True ∧ True) (by with_unfolding_all rfl) ⟨trivial, trivial, trivial, trivial, trivial⟩ ?_
            by_cases c137 : (0 : Int32) ≠ 0
            · rw [if_pos c137] at h
              refine am_ev_pos c137 ?_
              obtain ⟨vf_6, vu_6, vx_6⟩ := V_6
              try dsimp only at h
              refine am_ev_st 5 (f' := am_br (vu_6 ≠ vf_6) 123 114 [(6, .int (0 : Int32)), (5, .int (0 : Int32)), (4, .int r7), (0, .ref 19), (1, .int v1_6), (2, .int v2_6), (3, .int v3_6)] [] (W9 N C E F P Q T G U H B_6 O_6 J_6 (vf_6, vu_6, vx_6) Y Z O9) k n) (g := True ∧ True ∧ True ∧ True ∧ True ∧ True) (by with_unfolding_all rfl) ⟨trivial, trivial, trivial, trivial, trivial, trivial⟩ ?_
              by_cases c138 : vu_6 ≠ vf_6
              · rw [if_pos c138] at h
                refine am_ev_pos c138 ?_
                refine am_ev_st 1 (f' := (124, [(6, .int (0 : Int32)), (5, .int (0 : Int32)), (4, .int r7), (0, .ref 19), (1, .int v1_6), (2, .int v2_6), (3, .int v3_6)], [.ref 19], (W9 N C E F P Q T G U H B_6 O_6 J_6 (vf_6, vu_6, vx_6) Y Z O9), k, n)) (g := True ∧ True) (by with_unfolding_all rfl) ⟨trivial, trivial⟩ ?_
                replace h := Option.bind_eq_some_iff.mp h
                obtain ⟨O_139, hc139, h⟩ := h
                try dsimp only at h
                refine am_ev_call (.invokevirtual 114) 88 0 865 [.ref 19] [] rfl rfl rfl rfl (ok_fm_begin hc139 D (by omega)) rfl ?_
                refine am_ev_st 2 (f' := am_br ((0 : Int32) = 0) 199 129 [(6, .int (0 : Int32)), (5, .int (0 : Int32)), (4, .int r7), (0, .ref 19), (1, .int v1_6), (2, .int v2_6), (3, .int v3_6)] [] (W9 N C E F P Q T G U H B_6 O_139 J_6 (vf_6, vu_6, vx_6) Y Z O9) k n) (g := True ∧ True ∧ True) (by with_unfolding_all rfl) ⟨trivial, trivial, trivial⟩ ?_
                by_cases c140 : (0 : Int32) = 0
                · rw [if_pos c140] at h
                  refine am_ev_pos c140 ?_
                  refine am_ev_st 4 (f' := (203, [(6, .int (0 : Int32)), (5, .int (0 : Int32)), (4, .int r7), (0, .ref 19), (1, .int v1_6), (2, .int v2_6), (3, .int v3_6)], [.int v3_6, .int (0 : Int32), .int v1_6, .ref 19], (W9 N C E F P Q T G U H B_6 O_139 J_6 (vf_6, vu_6, vx_6) Y Z O9), k, n)) (g := True ∧ True ∧ True ∧ True ∧ True) (by with_unfolding_all rfl) ⟨trivial, trivial, trivial, trivial, trivial⟩ ?_
                  replace h := Option.bind_eq_some_iff.mp h
                  obtain ⟨O_141, hc141, h⟩ := h
                  try dsimp only at h
                  refine am_ev_call (.invokevirtual 117) 90 6 869 [.ref 19, .int v1_6, .int (0 : Int32), .int v3_6] [] rfl rfl rfl rfl (ok_fm_putAll hc141 D (by omega)) rfl ?_
                  obtain ⟨br_6, bl_6⟩ := B_6
                  try dsimp only at h
                  by_cases g142 : (((80 : Int32) + (r7 / (10 : Int32))) < 0 ∨ 96 ≤ (((80 : Int32) + (r7 / (10 : Int32)))).toNatClampNeg)
                  · rw [if_pos g142] at h; cases h
                  rw [if_neg g142] at h
                  refine am_ev_st 15 (f' := (229, [(6, .int (0 : Int32)), (5, .int (0 : Int32)), (4, .int r7), (0, .ref 19), (1, .int v1_6), (2, .int v2_6), (3, .int v3_6)], [.int (bl_6 (((80 : Int32) + (r7 / (10 : Int32)))).toNatClampNeg), .int (0 : Int32), .int ((80 : Int32) + (r7 / (10 : Int32))), .ref 19], (W9 N C E F P Q T G U H (br_6, bl_6) O_141 J_6 (vf_6, vu_6, vx_6) Y Z O9), k, n)) (g := True ∧ True ∧ True ∧ True ∧ ¬ ((10 : Int32) = 0) ∧ True ∧ True ∧ True ∧ True ∧ True ∧ True ∧ True ∧ ¬ ((10 : Int32) = 0) ∧ True ∧ vp_in (((80 : Int32) + (r7 / (10 : Int32)))) 96 ∧ True) (by with_unfolding_all rfl) ⟨trivial, trivial, trivial, trivial, by decide, trivial, trivial, trivial, trivial, trivial, trivial, trivial, by decide, trivial, g142, trivial⟩ ?_
                  replace h := Option.bind_eq_some_iff.mp h
                  obtain ⟨O_143, hc143, h⟩ := h
                  try dsimp only at h
                  refine am_ev_call (.invokevirtual 117) 90 6 869 [.ref 19, .int ((80 : Int32) + (r7 / (10 : Int32))), .int (0 : Int32), .int (bl_6 (((80 : Int32) + (r7 / (10 : Int32)))).toNatClampNeg)] [] rfl rfl rfl rfl (ok_fm_putAll hc143 D (by omega)) rfl ?_
                  by_cases g144 : (v1_6 < 0 ∨ 96 ≤ (v1_6).toNatClampNeg)
                  · rw [if_pos g144] at h; cases h
                  rw [if_neg g144] at h
                  refine am_ev_st 9 (f' := (243, [(6, .int (0 : Int32)), (5, .int (0 : Int32)), (4, .int r7), (0, .ref 19), (1, .int v1_6), (2, .int v2_6), (3, .int v3_6)], [.int (bl_6 (v1_6).toNatClampNeg), .int (v3_6 + (1 : Int32)), .int v1_6, .ref 19], (W9 N C E F P Q T G U H (br_6, bl_6) O_143 J_6 (vf_6, vu_6, vx_6) Y Z O9), k, n)) (g := True ∧ True ∧ True ∧ True ∧ True ∧ True ∧ True ∧ True ∧ vp_in (v1_6) 96 ∧ True) (by with_unfolding_all rfl) ⟨trivial, trivial, trivial, trivial, trivial, trivial, trivial, trivial, g144, trivial⟩ ?_
                  replace h := Option.bind_eq_some_iff.mp h
                  obtain ⟨O_145, hc145, h⟩ := h
                  try dsimp only at h
                  refine am_ev_call (.invokevirtual 117) 90 6 869 [.ref 19, .int v1_6, .int (v3_6 + (1 : Int32)), .int (bl_6 (v1_6).toNatClampNeg)] [] rfl rfl rfl rfl (ok_fm_putAll hc145 D (by omega)) rfl ?_
                  refine am_ev_st 2 (f' := (248, [(6, .int (0 : Int32)), (5, .int (0 : Int32)), (4, .int r7), (0, .ref 19), (1, .int v1_6), (2, .int v2_6), (3, .int v3_6)], [.int v1_6, .ref 19], (W9 N C E F P Q T G U H (br_6, bl_6) O_145 J_6 (vf_6, vu_6, vx_6) Y Z O9), k, n)) (g := True ∧ True ∧ True) (by with_unfolding_all rfl) ⟨trivial, trivial, trivial⟩ ?_
                  replace h := Option.bind_eq_some_iff.mp h
                  obtain ⟨⟨r146, B_146, J_146, V_146⟩, hc146, h⟩ := h
                  try dsimp only at h
                  refine am_ev_call (.invokevirtual 125) 93 2 885 [.ref 19, .int v1_6] [] rfl rfl rfl rfl (ok_fm_take hc146 D (by omega)) rfl ?_
                  refine am_ev_st 1 (f' := am_br ((am_bz r146) ≠ 0) 255 251 [(6, .int (0 : Int32)), (5, .int (0 : Int32)), (4, .int r7), (0, .ref 19), (1, .int v1_6), (2, .int v2_6), (3, .int v3_6)] [] (W9 N C E F P Q T G U H B_146 O_145 J_146 V_146 Y Z O9) k n) (g := True ∧ True) (by with_unfolding_all rfl) ⟨trivial, trivial⟩ ?_
                  by_cases c147 : (am_bz r146) ≠ 0
                  · rw [if_pos c147] at h
                    refine am_ev_pos c147 ?_
                    obtain ⟨vf_146, vu_146, vx_146⟩ := V_146
                    try dsimp only at h
                    refine am_ev_st 7 (f' := (13, [(6, .int (0 : Int32)), (5, .int (0 : Int32)), (4, .int r7), (0, .ref 19), (1, .int v1_6), (2, .int v2_6), (3, .int v3_6)], [], (W9 N C E F P Q T G U H B_146 O_145 J_146 (vf_146, (vu_146 + (1 : Int32)), vx_146) Y Z O9), k, n)) (g := True ∧ True ∧ True ∧ True ∧ True ∧ True ∧ True ∧ True) (by with_unfolding_all rfl) ⟨trivial, trivial, trivial, trivial, trivial, trivial, trivial, trivial⟩ ?_
                    refine am_ev_drop [3, 4, 5] rfl rfl ?_
                    exact ih h
                  · rw [if_neg c147] at h
                    refine am_ev_neg c147 ?_
                    cases h
                    exact am_ev_vret 0 0 0 rfl rfl rfl
                · rw [if_neg c140] at h
                  refine am_ev_neg c140 ?_
                  refine am_ev_st 5 (f' := (137, [(6, .int (0 : Int32)), (5, .int (0 : Int32)), (4, .int r7), (0, .ref 19), (1, .int v1_6), (2, .int v2_6), (3, .int v3_6)], [.int (v3_6 + (1 : Int32)), .int v1_6, .ref 19], (W9 N C E F P Q T G U H B_6 O_139 J_6 (vf_6, vu_6, vx_6) Y Z O9), k, n)) (g := True ∧ True ∧ True ∧ True ∧ True ∧ True) (by with_unfolding_all rfl) ⟨trivial, trivial, trivial, trivial, trivial, trivial⟩ ?_
                  replace h := Option.bind_eq_some_iff.mp h
                  obtain ⟨r148, hc148, h⟩ := h
                  try dsimp only at h
                  refine am_ev_call (.invokevirtual 77) 82 4 853 [.ref 19, .int v1_6, .int (v3_6 + (1 : Int32))] [] rfl rfl rfl rfl (ok_fm_endOf hc148 D (by omega)) rfl ?_
                  refine am_ev_st 4 (f' := (146, [(7, .int r148), (6, .int (0 : Int32)), (5, .int (0 : Int32)), (4, .int r7), (0, .ref 19), (1, .int v1_6), (2, .int v2_6), (3, .int v3_6)], [.int r148, .int v1_6, .ref 19], (W9 N C E F P Q T G U H B_6 O_139 J_6 (vf_6, vu_6, vx_6) Y Z O9), k, n)) (g := True ∧ True ∧ True ∧ True ∧ True) (by with_unfolding_all rfl) ⟨trivial, trivial, trivial, trivial, trivial⟩ ?_
                  replace h := Option.bind_eq_some_iff.mp h
                  obtain ⟨r149, hc149, h⟩ := h
                  try dsimp only at h
                  refine am_ev_call (.invokevirtual 77) 82 4 853 [.ref 19, .int v1_6, .int r148] [] rfl rfl rfl rfl (ok_fm_endOf hc149 D (by omega)) rfl ?_
                  refine am_ev_st 4 (f' := (155, [(8, .int r149), (7, .int r148), (6, .int (0 : Int32)), (5, .int (0 : Int32)), (4, .int r7), (0, .ref 19), (1, .int v1_6), (2, .int v2_6), (3, .int v3_6)], [.int r149, .int v1_6, .ref 19], (W9 N C E F P Q T G U H B_6 O_139 J_6 (vf_6, vu_6, vx_6) Y Z O9), k, n)) (g := True ∧ True ∧ True ∧ True ∧ True) (by with_unfolding_all rfl) ⟨trivial, trivial, trivial, trivial, trivial⟩ ?_
                  replace h := Option.bind_eq_some_iff.mp h
                  obtain ⟨r150, hc150, h⟩ := h
                  try dsimp only at h
                  refine am_ev_call (.invokevirtual 77) 82 4 853 [.ref 19, .int v1_6, .int r149] [] rfl rfl rfl rfl (ok_fm_endOf hc150 D (by omega)) rfl ?_
                  refine am_ev_st 7 (f' := (166, [(9, .int r150), (8, .int r149), (7, .int r148), (6, .int (0 : Int32)), (5, .int (0 : Int32)), (4, .int r7), (0, .ref 19), (1, .int v1_6), (2, .int v2_6), (3, .int v3_6)], [.int (v3_6 - (1 : Int32)), .int (0 : Int32), .int v1_6, .ref 19], (W9 N C E F P Q T G U H B_6 O_139 J_6 (vf_6, vu_6, vx_6) Y Z O9), k, n)) (g := True ∧ True ∧ True ∧ True ∧ True ∧ True ∧ True ∧ True) (by with_unfolding_all rfl) ⟨trivial, trivial, trivial, trivial, trivial, trivial, trivial, trivial⟩ ?_
                  replace h := Option.bind_eq_some_iff.mp h
                  obtain ⟨O_151, hc151, h⟩ := h
                  try dsimp only at h
                  refine am_ev_call (.invokevirtual 117) 90 6 869 [.ref 19, .int v1_6, .int (0 : Int32), .int (v3_6 - (1 : Int32))] [] rfl rfl rfl rfl (ok_fm_putAll hc151 D (by omega)) rfl ?_
                  refine am_ev_st 7 (f' := (180, [(9, .int r150), (8, .int r149), (7, .int r148), (6, .int (0 : Int32)), (5, .int (0 : Int32)), (4, .int r7), (0, .ref 19), (1, .int v1_6), (2, .int v2_6), (3, .int v3_6)], [.int r150, .int r149, .int v1_6, .int r149, .int r148, .int v1_6, .ref 19], (W9 N C E F P Q T G U H B_6 O_151 J_6 (vf_6, vu_6, vx_6) Y Z O9), k, n)) (g := True ∧ True ∧ True ∧ True ∧ True ∧ True ∧ True ∧ True) (by with_unfolding_all rfl) ⟨trivial, trivial, trivial, trivial, trivial, trivial, trivial, trivial⟩ ?_
                  replace h := Option.bind_eq_some_iff.mp h
                  obtain ⟨⟨O_152, J_152⟩, hc152, h⟩ := h
                  try dsimp only at h
                  refine am_ev_call (.invokevirtual 121) 92 12 877 [.ref 19, .int v1_6, .int r148, .int r149, .int v1_6, .int r149, .int r150] [] rfl rfl rfl rfl (ok_fm_putFor hc152 D (by omega)) rfl ?_
                  obtain ⟨br_6, bl_6⟩ := B_6
                  try dsimp only at h
                  by_cases g153 : (v1_6 < 0 ∨ 96 ≤ (v1_6).toNatClampNeg)
                  · rw [if_pos g153] at h; cases h
                  rw [if_neg g153] at h
                  refine am_ev_st 7 (f' := (193, [(9, .int r150), (8, .int r149), (7, .int r148), (6, .int (0 : Int32)), (5, .int (0 : Int32)), (4, .int r7), (0, .ref 19), (1, .int v1_6), (2, .int v2_6), (3, .int v3_6)], [.int (bl_6 (v1_6).toNatClampNeg), .int r150, .int v1_6, .ref 19], (W9 N C E F P Q T G U H (br_6, bl_6) O_152 J_152 (vf_6, vu_6, vx_6) Y Z O9), k, n)) (g := True ∧ True ∧ True ∧ True ∧ True ∧ True ∧ vp_in (v1_6) 96 ∧ True) (by with_unfolding_all rfl) ⟨trivial, trivial, trivial, trivial, trivial, trivial, g153, trivial⟩ ?_
                  replace h := Option.bind_eq_some_iff.mp h
                  obtain ⟨O_154, hc154, h⟩ := h
                  try dsimp only at h
                  refine am_ev_call (.invokevirtual 117) 90 6 869 [.ref 19, .int v1_6, .int r150, .int (bl_6 (v1_6).toNatClampNeg)] [] rfl rfl rfl rfl (ok_fm_putAll hc154 D (by omega)) rfl ?_
                  refine am_ev_st 3 (f' := (248, [(9, .int r150), (8, .int r149), (7, .int r148), (6, .int (0 : Int32)), (5, .int (0 : Int32)), (4, .int r7), (0, .ref 19), (1, .int v1_6), (2, .int v2_6), (3, .int v3_6)], [.int v1_6, .ref 19], (W9 N C E F P Q T G U H (br_6, bl_6) O_154 J_152 (vf_6, vu_6, vx_6) Y Z O9), k, n)) (g := True ∧ True ∧ True ∧ True) (by with_unfolding_all rfl) ⟨trivial, trivial, trivial, trivial⟩ ?_
                  replace h := Option.bind_eq_some_iff.mp h
                  obtain ⟨⟨r155, B_155, J_155, V_155⟩, hc155, h⟩ := h
                  try dsimp only at h
                  refine am_ev_call (.invokevirtual 125) 93 2 885 [.ref 19, .int v1_6] [] rfl rfl rfl rfl (ok_fm_take hc155 D (by omega)) rfl ?_
                  refine am_ev_st 1 (f' := am_br ((am_bz r155) ≠ 0) 255 251 [(9, .int r150), (8, .int r149), (7, .int r148), (6, .int (0 : Int32)), (5, .int (0 : Int32)), (4, .int r7), (0, .ref 19), (1, .int v1_6), (2, .int v2_6), (3, .int v3_6)] [] (W9 N C E F P Q T G U H B_155 O_154 J_155 V_155 Y Z O9) k n) (g := True ∧ True) (by with_unfolding_all rfl) ⟨trivial, trivial⟩ ?_
                  by_cases c156 : (am_bz r155) ≠ 0
                  · rw [if_pos c156] at h
                    refine am_ev_pos c156 ?_
                    obtain ⟨vf_155, vu_155, vx_155⟩ := V_155
                    try dsimp only at h
                    refine am_ev_st 7 (f' := (13, [(9, .int r150), (8, .int r149), (7, .int r148), (6, .int (0 : Int32)), (5, .int (0 : Int32)), (4, .int r7), (0, .ref 19), (1, .int v1_6), (2, .int v2_6), (3, .int v3_6)], [], (W9 N C E F P Q T G U H B_155 O_154 J_155 (vf_155, (vu_155 + (1 : Int32)), vx_155) Y Z O9), k, n)) (g := True ∧ True ∧ True ∧ True ∧ True ∧ True ∧ True ∧ True) (by with_unfolding_all rfl) ⟨trivial, trivial, trivial, trivial, trivial, trivial, trivial, trivial⟩ ?_
                    refine am_ev_drop [6, 7, 8] rfl rfl ?_
                    exact ih h
                  · rw [if_neg c156] at h
                    refine am_ev_neg c156 ?_
                    cases h
                    exact am_ev_vret 0 0 0 rfl rfl rfl
              · rw [if_neg c138] at h
                refine am_ev_neg c138 ?_
                refine am_ev_st 3 (f' := (122, [(6, .int (0 : Int32)), (5, .int (0 : Int32)), (4, .int r7), (0, .ref 19), (1, .int v1_6), (2, .int v2_6), (3, .int v3_6)], [], (W9 N C E F P Q T G U H B_6 O_6 J_6 (vf_6, vu_6, (3 : Int32)) Y Z O9), k, n)) (g := True ∧ True ∧ True ∧ True) (by with_unfolding_all rfl) ⟨trivial, trivial, trivial, trivial⟩ ?_
                cases h
                exact am_ev_vret 0 0 0 rfl rfl rfl
            · rw [if_neg c137] at h
              refine am_ev_neg c137 ?_
              refine am_ev_st 2 (f' := am_br ((0 : Int32) ≠ 0) 106 102 [(6, .int (0 : Int32)), (5, .int (0 : Int32)), (4, .int r7), (0, .ref 19), (1, .int v1_6), (2, .int v2_6), (3, .int v3_6)] [] (W9 N C E F P Q T G U H B_6 O_6 J_6 V_6 Y Z O9) k n) (g := True ∧ True ∧ True) (by with_unfolding_all rfl) ⟨trivial, trivial, trivial⟩ ?_
              by_cases c157 : (0 : Int32) ≠ 0
              · rw [if_pos c157] at h
                refine am_ev_pos c157 ?_
                obtain ⟨vf_6, vu_6, vx_6⟩ := V_6
                try dsimp only at h
                refine am_ev_st 5 (f' := am_br (vu_6 ≠ vf_6) 123 114 [(6, .int (0 : Int32)), (5, .int (0 : Int32)), (4, .int r7), (0, .ref 19), (1, .int v1_6), (2, .int v2_6), (3, .int v3_6)] [] (W9 N C E F P Q T G U H B_6 O_6 J_6 (vf_6, vu_6, vx_6) Y Z O9) k n) (g := True ∧ True ∧ True ∧ True ∧ True ∧ True) (by with_unfolding_all rfl) ⟨trivial, trivial, trivial, trivial, trivial, trivial⟩ ?_
                by_cases c158 : vu_6 ≠ vf_6
                · rw [if_pos c158] at h
                  refine am_ev_pos c158 ?_
                  refine am_ev_st 1 (f' := (124, [(6, .int (0 : Int32)), (5, .int (0 : Int32)), (4, .int r7), (0, .ref 19), (1, .int v1_6), (2, .int v2_6), (3, .int v3_6)], [.ref 19], (W9 N C E F P Q T G U H B_6 O_6 J_6 (vf_6, vu_6, vx_6) Y Z O9), k, n)) (g := True ∧ True) (by with_unfolding_all rfl) ⟨trivial, trivial⟩ ?_
                  replace h := Option.bind_eq_some_iff.mp h
                  obtain ⟨O_159, hc159, h⟩ := h
                  try dsimp only at h
                  refine am_ev_call (.invokevirtual 114) 88 0 865 [.ref 19] [] rfl rfl rfl rfl (ok_fm_begin hc159 D (by omega)) rfl ?_
                  refine am_ev_st 2 (f' := am_br ((0 : Int32) = 0) 199 129 [(6, .int (0 : Int32)), (5, .int (0 : Int32)), (4, .int r7), (0, .ref 19), (1, .int v1_6), (2, .int v2_6), (3, .int v3_6)] [] (W9 N C E F P Q T G U H B_6 O_159 J_6 (vf_6, vu_6, vx_6) Y Z O9) k n) (g := True ∧ True ∧ True) (by with_unfolding_all rfl) ⟨trivial, trivial, trivial⟩ ?_
                  by_cases c160 : (0 : Int32) = 0
                  · rw [if_pos c160] at h
                    refine am_ev_pos c160 ?_
                    refine am_ev_st 4 (f' := (203, [(6, .int (0 : Int32)), (5, .int (0 : Int32)), (4, .int r7), (0, .ref 19), (1, .int v1_6), (2, .int v2_6), (3, .int v3_6)], [.int v3_6, .int (0 : Int32), .int v1_6, .ref 19], (W9 N C E F P Q T G U H B_6 O_159 J_6 (vf_6, vu_6, vx_6) Y Z O9), k, n)) (g := True ∧ True ∧ True ∧ True ∧ True) (by with_unfolding_all rfl) ⟨trivial, trivial, trivial, trivial, trivial⟩ ?_
                    replace h := Option.bind_eq_some_iff.mp h
                    obtain ⟨O_161, hc161, h⟩ := h
                    try dsimp only at h
                    refine am_ev_call (.invokevirtual 117) 90 6 869 [.ref 19, .int v1_6, .int (0 : Int32), .int v3_6] [] rfl rfl rfl rfl (ok_fm_putAll hc161 D (by omega)) rfl ?_
                    obtain ⟨br_6, bl_6⟩ := B_6
                    try dsimp only at h
                    by_cases g162 : (((80 : Int32) + (r7 / (10 : Int32))) < 0 ∨ 96 ≤ (((80 : Int32) + (r7 / (10 : Int32)))).toNatClampNeg)
                    · rw [if_pos g162] at h; cases h
                    rw [if_neg g162] at h
                    refine am_ev_st 15 (f' := (229, [(6, .int (0 : Int32)), (5, .int (0 : Int32)), (4, .int r7), (0, .ref 19), (1, .int v1_6), (2, .int v2_6), (3, .int v3_6)], [.int (bl_6 (((80 : Int32) + (r7 / (10 : Int32)))).toNatClampNeg), .int (0 : Int32), .int ((80 : Int32) + (r7 / (10 : Int32))), .ref 19], (W9 N C E F P Q T G U H (br_6, bl_6) O_161 J_6 (vf_6, vu_6, vx_6) Y Z O9), k, n)) (g := True ∧ True ∧ True ∧ True ∧ ¬ ((10 : Int32) = 0) ∧ True ∧ True ∧ True ∧ True ∧ True ∧ True ∧ True ∧ ¬ ((10 : Int32) = 0) ∧ True ∧ vp_in (((80 : Int32) + (r7 / (10 : Int32)))) 96 ∧ True) (by with_unfolding_all rfl) ⟨trivial, trivial, trivial, trivial, by decide, trivial, trivial, trivial, trivial, trivial, trivial, trivial, by decide, trivial, g162, trivial⟩ ?_
                    replace h := Option.bind_eq_some_iff.mp h
                    obtain ⟨O_163, hc163, h⟩ := h
                    try dsimp only at h
                    refine am_ev_call (.invokevirtual 117) 90 6 869 [.ref 19, .int ((80 : Int32) + (r7 / (10 : Int32))), .int (0 : Int32), .int (bl_6 (((80 : Int32) + (r7 / (10 : Int32)))).toNatClampNeg)] [] rfl rfl rfl rfl (ok_fm_putAll hc163 D (by omega)) rfl ?_
                    by_cases g164 : (v1_6 < 0 ∨ 96 ≤ (v1_6).toNatClampNeg)
                    · rw [if_pos g164] at h; cases h
                    rw [if_neg g164] at h
                    refine am_ev_st 9 (f' := (243, [(6, .int (0 : Int32)), (5, .int (0 : Int32)), (4, .int r7), (0, .ref 19), (1, .int v1_6), (2, .int v2_6), (3, .int v3_6)], [.int (bl_6 (v1_6).toNatClampNeg), .int (v3_6 + (1 : Int32)), .int v1_6, .ref 19], (W9 N C E F P Q T G U H (br_6, bl_6) O_163 J_6 (vf_6, vu_6, vx_6) Y Z O9), k, n)) (g := True ∧ True ∧ True ∧ True ∧ True ∧ True ∧ True ∧ True ∧ vp_in (v1_6) 96 ∧ True) (by with_unfolding_all rfl) ⟨trivial, trivial, trivial, trivial, trivial, trivial, trivial, trivial, g164, trivial⟩ ?_
                    replace h := Option.bind_eq_some_iff.mp h
                    obtain ⟨O_165, hc165, h⟩ := h
                    try dsimp only at h
                    refine am_ev_call (.invokevirtual 117) 90 6 869 [.ref 19, .int v1_6, .int (v3_6 + (1 : Int32)), .int (bl_6 (v1_6).toNatClampNeg)] [] rfl rfl rfl rfl (ok_fm_putAll hc165 D (by omega)) rfl ?_
                    refine am_ev_st 2 (f' := (248, [(6, .int (0 : Int32)), (5, .int (0 : Int32)), (4, .int r7), (0, .ref 19), (1, .int v1_6), (2, .int v2_6), (3, .int v3_6)], [.int v1_6, .ref 19], (W9 N C E F P Q T G U H (br_6, bl_6) O_165 J_6 (vf_6, vu_6, vx_6) Y Z O9), k, n)) (g := True ∧ True ∧ True) (by with_unfolding_all rfl) ⟨trivial, trivial, trivial⟩ ?_
                    replace h := Option.bind_eq_some_iff.mp h
                    obtain ⟨⟨r166, B_166, J_166, V_166⟩, hc166, h⟩ := h
                    try dsimp only at h
                    refine am_ev_call (.invokevirtual 125) 93 2 885 [.ref 19, .int v1_6] [] rfl rfl rfl rfl (ok_fm_take hc166 D (by omega)) rfl ?_
                    refine am_ev_st 1 (f' := am_br ((am_bz r166) ≠ 0) 255 251 [(6, .int (0 : Int32)), (5, .int (0 : Int32)), (4, .int r7), (0, .ref 19), (1, .int v1_6), (2, .int v2_6), (3, .int v3_6)] [] (W9 N C E F P Q T G U H B_166 O_165 J_166 V_166 Y Z O9) k n) (g := True ∧ True) (by with_unfolding_all rfl) ⟨trivial, trivial⟩ ?_
                    by_cases c167 : (am_bz r166) ≠ 0
                    · rw [if_pos c167] at h
                      refine am_ev_pos c167 ?_
                      obtain ⟨vf_166, vu_166, vx_166⟩ := V_166
                      try dsimp only at h
                      refine am_ev_st 7 (f' := (13, [(6, .int (0 : Int32)), (5, .int (0 : Int32)), (4, .int r7), (0, .ref 19), (1, .int v1_6), (2, .int v2_6), (3, .int v3_6)], [], (W9 N C E F P Q T G U H B_166 O_165 J_166 (vf_166, (vu_166 + (1 : Int32)), vx_166) Y Z O9), k, n)) (g := True ∧ True ∧ True ∧ True ∧ True ∧ True ∧ True ∧ True) (by with_unfolding_all rfl) ⟨trivial, trivial, trivial, trivial, trivial, trivial, trivial, trivial⟩ ?_
                      refine am_ev_drop [3, 4, 5] rfl rfl ?_
                      exact ih h
                    · rw [if_neg c167] at h
                      refine am_ev_neg c167 ?_
                      cases h
                      exact am_ev_vret 0 0 0 rfl rfl rfl
                  · rw [if_neg c160] at h
                    refine am_ev_neg c160 ?_
                    refine am_ev_st 5 (f' := (137, [(6, .int (0 : Int32)), (5, .int (0 : Int32)), (4, .int r7), (0, .ref 19), (1, .int v1_6), (2, .int v2_6), (3, .int v3_6)], [.int (v3_6 + (1 : Int32)), .int v1_6, .ref 19], (W9 N C E F P Q T G U H B_6 O_159 J_6 (vf_6, vu_6, vx_6) Y Z O9), k, n)) (g := True ∧ True ∧ True ∧ True ∧ True ∧ True) (by with_unfolding_all rfl) ⟨trivial, trivial, trivial, trivial, trivial, trivial⟩ ?_
                    replace h := Option.bind_eq_some_iff.mp h
                    obtain ⟨r168, hc168, h⟩ := h
                    try dsimp only at h
                    refine am_ev_call (.invokevirtual 77) 82 4 853 [.ref 19, .int v1_6, .int (v3_6 + (1 : Int32))] [] rfl rfl rfl rfl (ok_fm_endOf hc168 D (by omega)) rfl ?_
                    refine am_ev_st 4 (f' := (146, [(7, .int r168), (6, .int (0 : Int32)), (5, .int (0 : Int32)), (4, .int r7), (0, .ref 19), (1, .int v1_6), (2, .int v2_6), (3, .int v3_6)], [.int r168, .int v1_6, .ref 19], (W9 N C E F P Q T G U H B_6 O_159 J_6 (vf_6, vu_6, vx_6) Y Z O9), k, n)) (g := True ∧ True ∧ True ∧ True ∧ True) (by with_unfolding_all rfl) ⟨trivial, trivial, trivial, trivial, trivial⟩ ?_
                    replace h := Option.bind_eq_some_iff.mp h
                    obtain ⟨r169, hc169, h⟩ := h
                    try dsimp only at h
                    refine am_ev_call (.invokevirtual 77) 82 4 853 [.ref 19, .int v1_6, .int r168] [] rfl rfl rfl rfl (ok_fm_endOf hc169 D (by omega)) rfl ?_
                    refine am_ev_st 4 (f' := (155, [(8, .int r169), (7, .int r168), (6, .int (0 : Int32)), (5, .int (0 : Int32)), (4, .int r7), (0, .ref 19), (1, .int v1_6), (2, .int v2_6), (3, .int v3_6)], [.int r169, .int v1_6, .ref 19], (W9 N C E F P Q T G U H B_6 O_159 J_6 (vf_6, vu_6, vx_6) Y Z O9), k, n)) (g := True ∧ True ∧ True ∧ True ∧ True) (by with_unfolding_all rfl) ⟨trivial, trivial, trivial, trivial, trivial⟩ ?_
                    replace h := Option.bind_eq_some_iff.mp h
                    obtain ⟨r170, hc170, h⟩ := h
                    try dsimp only at h
                    refine am_ev_call (.invokevirtual 77) 82 4 853 [.ref 19, .int v1_6, .int r169] [] rfl rfl rfl rfl (ok_fm_endOf hc170 D (by omega)) rfl ?_
                    refine am_ev_st 7 (f' := (166, [(9, .int r170), (8, .int r169), (7, .int r168), (6, .int (0 : Int32)), (5, .int (0 : Int32)), (4, .int r7), (0, .ref 19), (1, .int v1_6), (2, .int v2_6), (3, .int v3_6)], [.int (v3_6 - (1 : Int32)), .int (0 : Int32), .int v1_6, .ref 19], (W9 N C E F P Q T G U H B_6 O_159 J_6 (vf_6, vu_6, vx_6) Y Z O9), k, n)) (g := True ∧ True ∧ True ∧ True ∧ True ∧ True ∧ True ∧ True) (by with_unfolding_all rfl) ⟨trivial, trivial, trivial, trivial, trivial, trivial, trivial, trivial⟩ ?_
                    replace h := Option.bind_eq_some_iff.mp h
                    obtain ⟨O_171, hc171, h⟩ := h
                    try dsimp only at h
                    refine am_ev_call (.invokevirtual 117) 90 6 869 [.ref 19, .int v1_6, .int (0 : Int32), .int (v3_6 - (1 : Int32))] [] rfl rfl rfl rfl (ok_fm_putAll hc171 D (by omega)) rfl ?_
                    refine am_ev_st 7 (f' := (180, [(9, .int r170), (8, .int r169), (7, .int r168), (6, .int (0 : Int32)), (5, .int (0 : Int32)), (4, .int r7), (0, .ref 19), (1, .int v1_6), (2, .int v2_6), (3, .int v3_6)], [.int r170, .int r169, .int v1_6, .int r169, .int r168, .int v1_6, .ref 19], (W9 N C E F P Q T G U H B_6 O_171 J_6 (vf_6, vu_6, vx_6) Y Z O9), k, n)) (g := True ∧ True ∧ True ∧ True ∧ True ∧ True ∧ True ∧ True) (by with_unfolding_all rfl) ⟨trivial, trivial, trivial, trivial, trivial, trivial, trivial, trivial⟩ ?_
                    replace h := Option.bind_eq_some_iff.mp h
                    obtain ⟨⟨O_172, J_172⟩, hc172, h⟩ := h
                    try dsimp only at h
                    refine am_ev_call (.invokevirtual 121) 92 12 877 [.ref 19, .int v1_6, .int r168, .int r169, .int v1_6, .int r169, .int r170] [] rfl rfl rfl rfl (ok_fm_putFor hc172 D (by omega)) rfl ?_
                    obtain ⟨br_6, bl_6⟩ := B_6
                    try dsimp only at h
                    by_cases g173 : (v1_6 < 0 ∨ 96 ≤ (v1_6).toNatClampNeg)
                    · rw [if_pos g173] at h; cases h
                    rw [if_neg g173] at h
                    refine am_ev_st 7 (f' := (193, [(9, .int r170), (8, .int r169), (7, .int r168), (6, .int (0 : Int32)), (5, .int (0 : Int32)), (4, .int r7), (0, .ref 19), (1, .int v1_6), (2, .int v2_6), (3, .int v3_6)], [.int (bl_6 (v1_6).toNatClampNeg), .int r170, .int v1_6, .ref 19], (W9 N C E F P Q T G U H (br_6, bl_6) O_172 J_172 (vf_6, vu_6, vx_6) Y Z O9), k, n)) (g := True ∧ True ∧ True ∧ True ∧ True ∧ True ∧ vp_in (v1_6) 96 ∧ True) (by with_unfolding_all rfl) ⟨trivial, trivial, trivial, trivial, trivial, trivial, g173, trivial⟩ ?_
                    replace h := Option.bind_eq_some_iff.mp h
                    obtain ⟨O_174, hc174, h⟩ := h
                    try dsimp only at h
                    refine am_ev_call (.invokevirtual 117) 90 6 869 [.ref 19, .int v1_6, .int r170, .int (bl_6 (v1_6).toNatClampNeg)] [] rfl rfl rfl rfl (ok_fm_putAll hc174 D (by omega)) rfl ?_
                    refine am_ev_st 3 (f' := (248, [(9, .int r170), (8, .int r169), (7, .int r168), (6, .int (0 : Int32)), (5, .int (0 : Int32)), (4, .int r7), (0, .ref 19), (1, .int v1_6), (2, .int v2_6), (3, .int v3_6)], [.int v1_6, .ref 19], (W9 N C E F P Q T G U H (br_6, bl_6) O_174 J_172 (vf_6, vu_6, vx_6) Y Z O9), k, n)) (g := True ∧ True ∧ True ∧ True) (by with_unfolding_all rfl) ⟨trivial, trivial, trivial, trivial⟩ ?_
                    replace h := Option.bind_eq_some_iff.mp h
                    obtain ⟨⟨r175, B_175, J_175, V_175⟩, hc175, h⟩ := h
                    try dsimp only at h
                    refine am_ev_call (.invokevirtual 125) 93 2 885 [.ref 19, .int v1_6] [] rfl rfl rfl rfl (ok_fm_take hc175 D (by omega)) rfl ?_
                    refine am_ev_st 1 (f' := am_br ((am_bz r175) ≠ 0) 255 251 [(9, .int r170), (8, .int r169), (7, .int r168), (6, .int (0 : Int32)), (5, .int (0 : Int32)), (4, .int r7), (0, .ref 19), (1, .int v1_6), (2, .int v2_6), (3, .int v3_6)] [] (W9 N C E F P Q T G U H B_175 O_174 J_175 V_175 Y Z O9) k n) (g := True ∧ True) (by with_unfolding_all rfl) ⟨trivial, trivial⟩ ?_
                    by_cases c176 : (am_bz r175) ≠ 0
                    · rw [if_pos c176] at h
                      refine am_ev_pos c176 ?_
                      obtain ⟨vf_175, vu_175, vx_175⟩ := V_175
                      try dsimp only at h
                      refine am_ev_st 7 (f' := (13, [(9, .int r170), (8, .int r169), (7, .int r168), (6, .int (0 : Int32)), (5, .int (0 : Int32)), (4, .int r7), (0, .ref 19), (1, .int v1_6), (2, .int v2_6), (3, .int v3_6)], [], (W9 N C E F P Q T G U H B_175 O_174 J_175 (vf_175, (vu_175 + (1 : Int32)), vx_175) Y Z O9), k, n)) (g := True ∧ True ∧ True ∧ True ∧ True ∧ True ∧ True ∧ True) (by with_unfolding_all rfl) ⟨trivial, trivial, trivial, trivial, trivial, trivial, trivial, trivial⟩ ?_
                      refine am_ev_drop [6, 7, 8] rfl rfl ?_
                      exact ih h
                    · rw [if_neg c176] at h
                      refine am_ev_neg c176 ?_
                      cases h
                      exact am_ev_vret 0 0 0 rfl rfl rfl
                · rw [if_neg c158] at h
                  refine am_ev_neg c158 ?_
                  refine am_ev_st 3 (f' := (122, [(6, .int (0 : Int32)), (5, .int (0 : Int32)), (4, .int r7), (0, .ref 19), (1, .int v1_6), (2, .int v2_6), (3, .int v3_6)], [], (W9 N C E F P Q T G U H B_6 O_6 J_6 (vf_6, vu_6, (3 : Int32)) Y Z O9), k, n)) (g := True ∧ True ∧ True ∧ True) (by with_unfolding_all rfl) ⟨trivial, trivial, trivial, trivial⟩ ?_
                  cases h
                  exact am_ev_vret 0 0 0 rfl rfl rfl
              · rw [if_neg c157] at h
                refine am_ev_neg c157 ?_
                cases h
                exact am_ev_vret 0 0 0 rfl rfl rfl
          · rw [if_neg c136] at h
            refine am_ev_neg c136 ?_
            obtain ⟨gc, gb⟩ := G
            try dsimp only at h
            by_cases g177 : ((r7 / (10 : Int32)) < 0 ∨ 16 ≤ ((r7 / (10 : Int32))).toNatClampNeg)
            · rw [if_pos g177] at h; cases h
            rw [if_neg g177] at h
            refine am_ev_st 7 (f' := am_br ((gb ((r7 / (10 : Int32))).toNatClampNeg) = 0) 92 85 [(5, .int (0 : Int32)), (4, .int r7), (0, .ref 19), (1, .int v1_6), (2, .int v2_6), (3, .int v3_6)] [] (W9 N C E F P Q T (gc, gb) U H B_6 O_6 J_6 V_6 Y Z O9) k n) (g := True ∧ True ∧ True ∧ True ∧ ¬ ((10 : Int32) = 0) ∧ vp_in ((r7 / (10 : Int32))) 16 ∧ True ∧ True) (by with_unfolding_all rfl) ⟨trivial, trivial, trivial, trivial, by decide, g177, trivial, trivial⟩ ?_
            by_cases c178 : (gb ((r7 / (10 : Int32))).toNatClampNeg) = 0
            · rw [if_pos c178] at h
              refine am_ev_pos c178 ?_
              refine am_ev_st 4 (f' := am_br ((0 : Int32) ≠ 0) 106 97 [(6, .int (0 : Int32)), (5, .int (0 : Int32)), (4, .int r7), (0, .ref 19), (1, .int v1_6), (2, .int v2_6), (3, .int v3_6)] [] (W9 N C E F P Q T (gc, gb) U H B_6 O_6 J_6 V_6 Y Z O9) k n) (g := True ∧ True ∧ True ∧ True ∧ True) (by with_unfolding_all rfl) ⟨trivial, trivial, trivial, trivial, trivial⟩ ?_
              by_cases c179 : (0 : Int32) ≠ 0
              · rw [if_pos c179] at h
                refine am_ev_pos c179 ?_
                obtain ⟨vf_6, vu_6, vx_6⟩ := V_6
                try dsimp only at h
                refine am_ev_st 5 (f' := am_br (vu_6 ≠ vf_6) 123 114 [(6, .int (0 : Int32)), (5, .int (0 : Int32)), (4, .int r7), (0, .ref 19), (1, .int v1_6), (2, .int v2_6), (3, .int v3_6)] [] (W9 N C E F P Q T (gc, gb) U H B_6 O_6 J_6 (vf_6, vu_6, vx_6) Y Z O9) k n) (g := True ∧ True ∧ True ∧ True ∧ True ∧ True) (by with_unfolding_all rfl) ⟨trivial, trivial, trivial, trivial, trivial, trivial⟩ ?_
                by_cases c180 : vu_6 ≠ vf_6
                · rw [if_pos c180] at h
                  refine am_ev_pos c180 ?_
                  refine am_ev_st 1 (f' := (124, [(6, .int (0 : Int32)), (5, .int (0 : Int32)), (4, .int r7), (0, .ref 19), (1, .int v1_6), (2, .int v2_6), (3, .int v3_6)], [.ref 19], (W9 N C E F P Q T (gc, gb) U H B_6 O_6 J_6 (vf_6, vu_6, vx_6) Y Z O9), k, n)) (g := True ∧ True) (by with_unfolding_all rfl) ⟨trivial, trivial⟩ ?_
                  replace h := Option.bind_eq_some_iff.mp h
                  obtain ⟨O_181, hc181, h⟩ := h
                  try dsimp only at h
                  refine am_ev_call (.invokevirtual 114) 88 0 865 [.ref 19] [] rfl rfl rfl rfl (ok_fm_begin hc181 D (by omega)) rfl ?_
                  refine am_ev_st 2 (f' := am_br ((0 : Int32) = 0) 199 129 [(6, .int (0 : Int32)), (5, .int (0 : Int32)), (4, .int r7), (0, .ref 19), (1, .int v1_6), (2, .int v2_6), (3, .int v3_6)] [] (W9 N C E F P Q T (gc, gb) U H B_6 O_181 J_6 (vf_6, vu_6, vx_6) Y Z O9) k n) (g := True ∧ True ∧ True) (by with_unfolding_all rfl) ⟨trivial, trivial, trivial⟩ ?_
                  by_cases c182 : (0 : Int32) = 0
                  · rw [if_pos c182] at h
                    refine am_ev_pos c182 ?_
                    refine am_ev_st 4 (f' := (203, [(6, .int (0 : Int32)), (5, .int (0 : Int32)), (4, .int r7), (0, .ref 19), (1, .int v1_6), (2, .int v2_6), (3, .int v3_6)], [.int v3_6, .int (0 : Int32), .int v1_6, .ref 19], (W9 N C E F P Q T (gc, gb) U H B_6 O_181 J_6 (vf_6, vu_6, vx_6) Y Z O9), k, n)) (g := True ∧ True ∧ True ∧ True ∧ True) (by with_unfolding_all rfl) ⟨trivial, trivial, trivial, trivial, trivial⟩ ?_
                    replace h := Option.bind_eq_some_iff.mp h
                    obtain ⟨O_183, hc183, h⟩ := h
                    try dsimp only at h
                    refine am_ev_call (.invokevirtual 117) 90 6 869 [.ref 19, .int v1_6, .int (0 : Int32), .int v3_6] [] rfl rfl rfl rfl (ok_fm_putAll hc183 D (by omega)) rfl ?_
                    obtain ⟨br_6, bl_6⟩ := B_6
                    try dsimp only at h
                    by_cases g184 : (((80 : Int32) + (r7 / (10 : Int32))) < 0 ∨ 96 ≤ (((80 : Int32) + (r7 / (10 : Int32)))).toNatClampNeg)
                    · rw [if_pos g184] at h; cases h
                    rw [if_neg g184] at h
                    refine am_ev_st 15 (f' := (229, [(6, .int (0 : Int32)), (5, .int (0 : Int32)), (4, .int r7), (0, .ref 19), (1, .int v1_6), (2, .int v2_6), (3, .int v3_6)], [.int (bl_6 (((80 : Int32) + (r7 / (10 : Int32)))).toNatClampNeg), .int (0 : Int32), .int ((80 : Int32) + (r7 / (10 : Int32))), .ref 19], (W9 N C E F P Q T (gc, gb) U H (br_6, bl_6) O_183 J_6 (vf_6, vu_6, vx_6) Y Z O9), k, n)) (g := True ∧ True ∧ True ∧ True ∧ ¬ ((10 : Int32) = 0) ∧ True ∧ True ∧ True ∧ True ∧ True ∧ True ∧ True ∧ ¬ ((10 : Int32) = 0) ∧ True ∧ vp_in (((80 : Int32) + (r7 / (10 : Int32)))) 96 ∧ True) (by with_unfolding_all rfl) ⟨trivial, trivial, trivial, trivial, by decide, trivial, trivial, trivial, trivial, trivial, trivial, trivial, by decide, trivial, g184, trivial⟩ ?_
                    replace h := Option.bind_eq_some_iff.mp h
                    obtain ⟨O_185, hc185, h⟩ := h
                    try dsimp only at h
                    refine am_ev_call (.invokevirtual 117) 90 6 869 [.ref 19, .int ((80 : Int32) + (r7 / (10 : Int32))), .int (0 : Int32), .int (bl_6 (((80 : Int32) + (r7 / (10 : Int32)))).toNatClampNeg)] [] rfl rfl rfl rfl (ok_fm_putAll hc185 D (by omega)) rfl ?_
                    by_cases g186 : (v1_6 < 0 ∨ 96 ≤ (v1_6).toNatClampNeg)
                    · rw [if_pos g186] at h; cases h
                    rw [if_neg g186] at h
                    refine am_ev_st 9 (f' := (243, [(6, .int (0 : Int32)), (5, .int (0 : Int32)), (4, .int r7), (0, .ref 19), (1, .int v1_6), (2, .int v2_6), (3, .int v3_6)], [.int (bl_6 (v1_6).toNatClampNeg), .int (v3_6 + (1 : Int32)), .int v1_6, .ref 19], (W9 N C E F P Q T (gc, gb) U H (br_6, bl_6) O_185 J_6 (vf_6, vu_6, vx_6) Y Z O9), k, n)) (g := True ∧ True ∧ True ∧ True ∧ True ∧ True ∧ True ∧ True ∧ vp_in (v1_6) 96 ∧ True) (by with_unfolding_all rfl) ⟨trivial, trivial, trivial, trivial, trivial, trivial, trivial, trivial, g186, trivial⟩ ?_
                    replace h := Option.bind_eq_some_iff.mp h
                    obtain ⟨O_187, hc187, h⟩ := h
                    try dsimp only at h
                    refine am_ev_call (.invokevirtual 117) 90 6 869 [.ref 19, .int v1_6, .int (v3_6 + (1 : Int32)), .int (bl_6 (v1_6).toNatClampNeg)] [] rfl rfl rfl rfl (ok_fm_putAll hc187 D (by omega)) rfl ?_
                    refine am_ev_st 2 (f' := (248, [(6, .int (0 : Int32)), (5, .int (0 : Int32)), (4, .int r7), (0, .ref 19), (1, .int v1_6), (2, .int v2_6), (3, .int v3_6)], [.int v1_6, .ref 19], (W9 N C E F P Q T (gc, gb) U H (br_6, bl_6) O_187 J_6 (vf_6, vu_6, vx_6) Y Z O9), k, n)) (g := True ∧ True ∧ True) (by with_unfolding_all rfl) ⟨trivial, trivial, trivial⟩ ?_
                    replace h := Option.bind_eq_some_iff.mp h
                    obtain ⟨⟨r188, B_188, J_188, V_188⟩, hc188, h⟩ := h
                    try dsimp only at h
                    refine am_ev_call (.invokevirtual 125) 93 2 885 [.ref 19, .int v1_6] [] rfl rfl rfl rfl (ok_fm_take hc188 D (by omega)) rfl ?_
                    refine am_ev_st 1 (f' := am_br ((am_bz r188) ≠ 0) 255 251 [(6, .int (0 : Int32)), (5, .int (0 : Int32)), (4, .int r7), (0, .ref 19), (1, .int v1_6), (2, .int v2_6), (3, .int v3_6)] [] (W9 N C E F P Q T (gc, gb) U H B_188 O_187 J_188 V_188 Y Z O9) k n) (g := True ∧ True) (by with_unfolding_all rfl) ⟨trivial, trivial⟩ ?_
                    by_cases c189 : (am_bz r188) ≠ 0
                    · rw [if_pos c189] at h
                      refine am_ev_pos c189 ?_
                      obtain ⟨vf_188, vu_188, vx_188⟩ := V_188
                      try dsimp only at h
                      refine am_ev_st 7 (f' := (13, [(6, .int (0 : Int32)), (5, .int (0 : Int32)), (4, .int r7), (0, .ref 19), (1, .int v1_6), (2, .int v2_6), (3, .int v3_6)], [], (W9 N C E F P Q T (gc, gb) U H B_188 O_187 J_188 (vf_188, (vu_188 + (1 : Int32)), vx_188) Y Z O9), k, n)) (g := True ∧ True ∧ True ∧ True ∧ True ∧ True ∧ True ∧ True) (by with_unfolding_all rfl) ⟨trivial, trivial, trivial, trivial, trivial, trivial, trivial, trivial⟩ ?_
                      refine am_ev_drop [3, 4, 5] rfl rfl ?_
                      exact ih h
                    · rw [if_neg c189] at h
                      refine am_ev_neg c189 ?_
                      cases h
                      exact am_ev_vret 0 0 0 rfl rfl rfl
                  · rw [if_neg c182] at h
                    refine am_ev_neg c182 ?_
                    refine am_ev_st 5 (f' := (137, [(6, .int (0 : Int32)), (5, .int (0 : Int32)), (4, .int r7), (0, .ref 19), (1, .int v1_6), (2, .int v2_6), (3, .int v3_6)], [.int (v3_6 + (1 : Int32)), .int v1_6, .ref 19], (W9 N C E F P Q T (gc, gb) U H B_6 O_181 J_6 (vf_6, vu_6, vx_6) Y Z O9), k, n)) (g := True ∧ True ∧ True ∧ True ∧ True ∧ True) (by with_unfolding_all rfl) ⟨trivial, trivial, trivial, trivial, trivial, trivial⟩ ?_
                    replace h := Option.bind_eq_some_iff.mp h
                    obtain ⟨r190, hc190, h⟩ := h
                    try dsimp only at h
                    refine am_ev_call (.invokevirtual 77) 82 4 853 [.ref 19, .int v1_6, .int (v3_6 + (1 : Int32))] [] rfl rfl rfl rfl (ok_fm_endOf hc190 D (by omega)) rfl ?_
                    refine am_ev_st 4 (f' := (146, [(7, .int r190), (6, .int (0 : Int32)), (5, .int (0 : Int32)), (4, .int r7), (0, .ref 19), (1, .int v1_6), (2, .int v2_6), (3, .int v3_6)], [.int r190, .int v1_6, .ref 19], (W9 N C E F P Q T (gc, gb) U H B_6 O_181 J_6 (vf_6, vu_6, vx_6) Y Z O9), k, n)) (g := True ∧ True ∧ True ∧ True ∧ True) (by with_unfolding_all rfl) ⟨trivial, trivial, trivial, trivial, trivial⟩ ?_
                    replace h := Option.bind_eq_some_iff.mp h
                    obtain ⟨r191, hc191, h⟩ := h
                    try dsimp only at h
                    refine am_ev_call (.invokevirtual 77) 82 4 853 [.ref 19, .int v1_6, .int r190] [] rfl rfl rfl rfl (ok_fm_endOf hc191 D (by omega)) rfl ?_
                    refine am_ev_st 4 (f' := (155, [(8, .int r191), (7, .int r190), (6, .int (0 : Int32)), (5, .int (0 : Int32)), (4, .int r7), (0, .ref 19), (1, .int v1_6), (2, .int v2_6), (3, .int v3_6)], [.int r191, .int v1_6, .ref 19], (W9 N C E F P Q T (gc, gb) U H B_6 O_181 J_6 (vf_6, vu_6, vx_6) Y Z O9), k, n)) (g := True ∧ True ∧ True ∧ True ∧ True) (by with_unfolding_all rfl) ⟨trivial, trivial, trivial, trivial, trivial⟩ ?_
                    replace h := Option.bind_eq_some_iff.mp h
                    obtain ⟨r192, hc192, h⟩ := h
                    try dsimp only at h
                    refine am_ev_call (.invokevirtual 77) 82 4 853 [.ref 19, .int v1_6, .int r191] [] rfl rfl rfl rfl (ok_fm_endOf hc192 D (by omega)) rfl ?_
                    refine am_ev_st 7 (f' := (166, [(9, .int r192), (8, .int r191), (7, .int r190), (6, .int (0 : Int32)), (5, .int (0 : Int32)), (4, .int r7), (0, .ref 19), (1, .int v1_6), (2, .int v2_6), (3, .int v3_6)], [.int (v3_6 - (1 : Int32)), .int (0 : Int32), .int v1_6, .ref 19], (W9 N C E F P Q T (gc, gb) U H B_6 O_181 J_6 (vf_6, vu_6, vx_6) Y Z O9), k, n)) (g := True ∧ True ∧ True ∧ True ∧ True ∧ True ∧ True ∧ True) (by with_unfolding_all rfl) ⟨trivial, trivial, trivial, trivial, trivial, trivial, trivial, trivial⟩ ?_
                    replace h := Option.bind_eq_some_iff.mp h
                    obtain ⟨O_193, hc193, h⟩ := h
                    try dsimp only at h
                    refine am_ev_call (.invokevirtual 117) 90 6 869 [.ref 19, .int v1_6, .int (0 : Int32), .int (v3_6 - (1 : Int32))] [] rfl rfl rfl rfl (ok_fm_putAll hc193 D (by omega)) rfl ?_
                    refine am_ev_st 7 (f' := (180, [(9, .int r192), (8, .int r191), (7, .int r190), (6, .int (0 : Int32)), (5, .int (0 : Int32)), (4, .int r7), (0, .ref 19), (1, .int v1_6), (2, .int v2_6), (3, .int v3_6)], [.int r192, .int r191, .int v1_6, .int r191, .int r190, .int v1_6, .ref 19], (W9 N C E F P Q T (gc, gb) U H B_6 O_193 J_6 (vf_6, vu_6, vx_6) Y Z O9), k, n)) (g := True ∧ True ∧ True ∧ True ∧ True ∧ True ∧ True ∧ True) (by with_unfolding_all rfl) ⟨trivial, trivial, trivial, trivial, trivial, trivial, trivial, trivial⟩ ?_
                    replace h := Option.bind_eq_some_iff.mp h
                    obtain ⟨⟨O_194, J_194⟩, hc194, h⟩ := h
                    try dsimp only at h
                    refine am_ev_call (.invokevirtual 121) 92 12 877 [.ref 19, .int v1_6, .int r190, .int r191, .int v1_6, .int r191, .int r192] [] rfl rfl rfl rfl (ok_fm_putFor hc194 D (by omega)) rfl ?_
                    obtain ⟨br_6, bl_6⟩ := B_6
                    try dsimp only at h
                    by_cases g195 : (v1_6 < 0 ∨ 96 ≤ (v1_6).toNatClampNeg)
                    · rw [if_pos g195] at h; cases h
                    rw [if_neg g195] at h
                    refine am_ev_st 7 (f' := (193, [(9, .int r192), (8, .int r191), (7, .int r190), (6, .int (0 : Int32)), (5, .int (0 : Int32)), (4, .int r7), (0, .ref 19), (1, .int v1_6), (2, .int v2_6), (3, .int v3_6)], [.int (bl_6 (v1_6).toNatClampNeg), .int r192, .int v1_6, .ref 19], (W9 N C E F P Q T (gc, gb) U H (br_6, bl_6) O_194 J_194 (vf_6, vu_6, vx_6) Y Z O9), k, n)) (g := True ∧ True ∧ True ∧ True ∧ True ∧ True ∧ vp_in (v1_6) 96 ∧ True) (by with_unfolding_all rfl) ⟨trivial, trivial, trivial, trivial, trivial, trivial, g195, trivial⟩ ?_
                    replace h := Option.bind_eq_some_iff.mp h
                    obtain ⟨O_196, hc196, h⟩ := h
                    try dsimp only at h
                    refine am_ev_call (.invokevirtual 117) 90 6 869 [.ref 19, .int v1_6, .int r192, .int (bl_6 (v1_6).toNatClampNeg)] [] rfl rfl rfl rfl (ok_fm_putAll hc196 D (by omega)) rfl ?_
                    refine am_ev_st 3 (f' := (248, [(9, .int r192), (8, .int r191), (7, .int r190), (6, .int (0 : Int32)), (5, .int (0 : Int32)), (4, .int r7), (0, .ref 19), (1, .int v1_6), (2, .int v2_6), (3, .int v3_6)], [.int v1_6, .ref 19], (W9 N C E F P Q T (gc, gb) U H (br_6, bl_6) O_196 J_194 (vf_6, vu_6, vx_6) Y Z O9), k, n)) (g := True ∧ True ∧ True ∧ True) (by with_unfolding_all rfl) ⟨trivial, trivial, trivial, trivial⟩ ?_
                    replace h := Option.bind_eq_some_iff.mp h
                    obtain ⟨⟨r197, B_197, J_197, V_197⟩, hc197, h⟩ := h
                    try dsimp only at h
                    refine am_ev_call (.invokevirtual 125) 93 2 885 [.ref 19, .int v1_6] [] rfl rfl rfl rfl (ok_fm_take hc197 D (by omega)) rfl ?_
                    refine am_ev_st 1 (f' := am_br ((am_bz r197) ≠ 0) 255 251 [(9, .int r192), (8, .int r191), (7, .int r190), (6, .int (0 : Int32)), (5, .int (0 : Int32)), (4, .int r7), (0, .ref 19), (1, .int v1_6), (2, .int v2_6), (3, .int v3_6)] [] (W9 N C E F P Q T (gc, gb) U H B_197 O_196 J_197 V_197 Y Z O9) k n) (g := True ∧ True) (by with_unfolding_all rfl) ⟨trivial, trivial⟩ ?_
                    by_cases c198 : (am_bz r197) ≠ 0
                    · rw [if_pos c198] at h
                      refine am_ev_pos c198 ?_
                      obtain ⟨vf_197, vu_197, vx_197⟩ := V_197
                      try dsimp only at h
                      refine am_ev_st 7 (f' := (13, [(9, .int r192), (8, .int r191), (7, .int r190), (6, .int (0 : Int32)), (5, .int (0 : Int32)), (4, .int r7), (0, .ref 19), (1, .int v1_6), (2, .int v2_6), (3, .int v3_6)], [], (W9 N C E F P Q T (gc, gb) U H B_197 O_196 J_197 (vf_197, (vu_197 + (1 : Int32)), vx_197) Y Z O9), k, n)) (g := True ∧ True ∧ True ∧ True ∧ True ∧ True ∧ True ∧ True) (by with_unfolding_all rfl) ⟨trivial, trivial, trivial, trivial, trivial, trivial, trivial, trivial⟩ ?_
                      refine am_ev_drop [6, 7, 8] rfl rfl ?_
                      exact ih h
                    · rw [if_neg c198] at h
                      refine am_ev_neg c198 ?_
                      cases h
                      exact am_ev_vret 0 0 0 rfl rfl rfl
                · rw [if_neg c180] at h
                  refine am_ev_neg c180 ?_
                  refine am_ev_st 3 (f' := (122, [(6, .int (0 : Int32)), (5, .int (0 : Int32)), (4, .int r7), (0, .ref 19), (1, .int v1_6), (2, .int v2_6), (3, .int v3_6)], [], (W9 N C E F P Q T (gc, gb) U H B_6 O_6 J_6 (vf_6, vu_6, (3 : Int32)) Y Z O9), k, n)) (g := True ∧ True ∧ True ∧ True) (by with_unfolding_all rfl) ⟨trivial, trivial, trivial, trivial⟩ ?_
                  cases h
                  exact am_ev_vret 0 0 0 rfl rfl rfl
              · rw [if_neg c179] at h
                refine am_ev_neg c179 ?_
                refine am_ev_st 2 (f' := am_br ((0 : Int32) ≠ 0) 106 102 [(6, .int (0 : Int32)), (5, .int (0 : Int32)), (4, .int r7), (0, .ref 19), (1, .int v1_6), (2, .int v2_6), (3, .int v3_6)] [] (W9 N C E F P Q T (gc, gb) U H B_6 O_6 J_6 V_6 Y Z O9) k n) (g := True ∧ True ∧ True) (by with_unfolding_all rfl) ⟨trivial, trivial, trivial⟩ ?_
                by_cases c199 : (0 : Int32) ≠ 0
                · rw [if_pos c199] at h
                  refine am_ev_pos c199 ?_
                  obtain ⟨vf_6, vu_6, vx_6⟩ := V_6
                  try dsimp only at h
                  refine am_ev_st 5 (f' := am_br (vu_6 ≠ vf_6) 123 114 [(6, .int (0 : Int32)), (5, .int (0 : Int32)), (4, .int r7), (0, .ref 19), (1, .int v1_6), (2, .int v2_6), (3, .int v3_6)] [] (W9 N C E F P Q T (gc, gb) U H B_6 O_6 J_6 (vf_6, vu_6, vx_6) Y Z O9) k n) (g := True ∧ True ∧ True ∧ True ∧ True ∧ True) (by with_unfolding_all rfl) ⟨trivial, trivial, trivial, trivial, trivial, trivial⟩ ?_
                  by_cases c200 : vu_6 ≠ vf_6
                  · rw [if_pos c200] at h
                    refine am_ev_pos c200 ?_
                    refine am_ev_st 1 (f' := (124, [(6, .int (0 : Int32)), (5, .int (0 : Int32)), (4, .int r7), (0, .ref 19), (1, .int v1_6), (2, .int v2_6), (3, .int v3_6)], [.ref 19], (W9 N C E F P Q T (gc, gb) U H B_6 O_6 J_6 (vf_6, vu_6, vx_6) Y Z O9), k, n)) (g := True ∧ True) (by with_unfolding_all rfl) ⟨trivial, trivial⟩ ?_
                    replace h := Option.bind_eq_some_iff.mp h
                    obtain ⟨O_201, hc201, h⟩ := h
                    try dsimp only at h
                    refine am_ev_call (.invokevirtual 114) 88 0 865 [.ref 19] [] rfl rfl rfl rfl (ok_fm_begin hc201 D (by omega)) rfl ?_
                    refine am_ev_st 2 (f' := am_br ((0 : Int32) = 0) 199 129 [(6, .int (0 : Int32)), (5, .int (0 : Int32)), (4, .int r7), (0, .ref 19), (1, .int v1_6), (2, .int v2_6), (3, .int v3_6)] [] (W9 N C E F P Q T (gc, gb) U H B_6 O_201 J_6 (vf_6, vu_6, vx_6) Y Z O9) k n) (g := True ∧ True ∧ True) (by with_unfolding_all rfl) ⟨trivial, trivial, trivial⟩ ?_
                    by_cases c202 : (0 : Int32) = 0
                    · rw [if_pos c202] at h
                      refine am_ev_pos c202 ?_
                      refine am_ev_st 4 (f' := (203, [(6, .int (0 : Int32)), (5, .int (0 : Int32)), (4, .int r7), (0, .ref 19), (1, .int v1_6), (2, .int v2_6), (3, .int v3_6)], [.int v3_6, .int (0 : Int32), .int v1_6, .ref 19], (W9 N C E F P Q T (gc, gb) U H B_6 O_201 J_6 (vf_6, vu_6, vx_6) Y Z O9), k, n)) (g := True ∧ True ∧ True ∧ True ∧ True) (by with_unfolding_all rfl) ⟨trivial, trivial, trivial, trivial, trivial⟩ ?_
                      replace h := Option.bind_eq_some_iff.mp h
                      obtain ⟨O_203, hc203, h⟩ := h
                      try dsimp only at h
                      refine am_ev_call (.invokevirtual 117) 90 6 869 [.ref 19, .int v1_6, .int (0 : Int32), .int v3_6] [] rfl rfl rfl rfl (ok_fm_putAll hc203 D (by omega)) rfl ?_
                      obtain ⟨br_6, bl_6⟩ := B_6
                      try dsimp only at h
                      by_cases g204 : (((80 : Int32) + (r7 / (10 : Int32))) < 0 ∨ 96 ≤ (((80 : Int32) + (r7 / (10 : Int32)))).toNatClampNeg)
                      · rw [if_pos g204] at h; cases h
                      rw [if_neg g204] at h
                      refine am_ev_st 15 (f' := (229, [(6, .int (0 : Int32)), (5, .int (0 : Int32)), (4, .int r7), (0, .ref 19), (1, .int v1_6), (2, .int v2_6), (3, .int v3_6)], [.int (bl_6 (((80 : Int32) + (r7 / (10 : Int32)))).toNatClampNeg), .int (0 : Int32), .int ((80 : Int32) + (r7 / (10 : Int32))), .ref 19], (W9 N C E F P Q T (gc, gb) U H (br_6, bl_6) O_203 J_6 (vf_6, vu_6, vx_6) Y Z O9), k, n)) (g := True ∧ True ∧ True ∧ True ∧ ¬ ((10 : Int32) = 0) ∧ True ∧ True ∧ True ∧ True ∧ True ∧ True ∧ True ∧ ¬ ((10 : Int32) = 0) ∧ True ∧ vp_in (((80 : Int32) + (r7 / (10 : Int32)))) 96 ∧ True) (by with_unfolding_all rfl) ⟨trivial, trivial, trivial, trivial, by decide, trivial, trivial, trivial, trivial, trivial, trivial, trivial, by decide, trivial, g204, trivial⟩ ?_
                      replace h := Option.bind_eq_some_iff.mp h
                      obtain ⟨O_205, hc205, h⟩ := h
                      try dsimp only at h
                      refine am_ev_call (.invokevirtual 117) 90 6 869 [.ref 19, .int ((80 : Int32) + (r7 / (10 : Int32))), .int (0 : Int32), .int (bl_6 (((80 : Int32) + (r7 / (10 : Int32)))).toNatClampNeg)] [] rfl rfl rfl rfl (ok_fm_putAll hc205 D (by omega)) rfl ?_
                      by_cases g206 : (v1_6 < 0 ∨ 96 ≤ (v1_6).toNatClampNeg)
                      · rw [if_pos g206] at h; cases h
                      rw [if_neg g206] at h
                      refine am_ev_st 9 (f' := (243, [(6, .int (0 : Int32)), (5, .int (0 : Int32)), (4, .int r7), (0, .ref 19), (1, .int v1_6), (2, .int v2_6), (3, .int v3_6)], [.int (bl_6 (v1_6).toNatClampNeg), .int (v3_6 + (1 : Int32)), .int v1_6, .ref 19], (W9 N C E F P Q T (gc, gb) U H (br_6, bl_6) O_205 J_6 (vf_6, vu_6, vx_6) Y Z O9), k, n)) (g := True ∧ True ∧ True ∧ True ∧ True ∧ True ∧ True ∧ True ∧ vp_in (v1_6) 96 ∧ True) (by with_unfolding_all rfl) ⟨trivial, trivial, trivial, trivial, trivial, trivial, trivial, trivial, g206, trivial⟩ ?_
                      replace h := Option.bind_eq_some_iff.mp h
                      obtain ⟨O_207, hc207, h⟩ := h
                      try dsimp only at h
                      refine am_ev_call (.invokevirtual 117) 90 6 869 [.ref 19, .int v1_6, .int (v3_6 + (1 : Int32)), .int (bl_6 (v1_6).toNatClampNeg)] [] rfl rfl rfl rfl (ok_fm_putAll hc207 D (by omega)) rfl ?_
                      refine am_ev_st 2 (f' := (248, [(6, .int (0 : Int32)), (5, .int (0 : Int32)), (4, .int r7), (0, .ref 19), (1, .int v1_6), (2, .int v2_6), (3, .int v3_6)], [.int v1_6, .ref 19], (W9 N C E F P Q T (gc, gb) U H (br_6, bl_6) O_207 J_6 (vf_6, vu_6, vx_6) Y Z O9), k, n)) (g := True ∧ True ∧ True) (by with_unfolding_all rfl) ⟨trivial, trivial, trivial⟩ ?_
                      replace h := Option.bind_eq_some_iff.mp h
                      obtain ⟨⟨r208, B_208, J_208, V_208⟩, hc208, h⟩ := h
                      try dsimp only at h
                      refine am_ev_call (.invokevirtual 125) 93 2 885 [.ref 19, .int v1_6] [] rfl rfl rfl rfl (ok_fm_take hc208 D (by omega)) rfl ?_
                      refine am_ev_st 1 (f' := am_br ((am_bz r208) ≠ 0) 255 251 [(6, .int (0 : Int32)), (5, .int (0 : Int32)), (4, .int r7), (0, .ref 19), (1, .int v1_6), (2, .int v2_6), (3, .int v3_6)] [] (W9 N C E F P Q T (gc, gb) U H B_208 O_207 J_208 V_208 Y Z O9) k n) (g := True ∧ True) (by with_unfolding_all rfl) ⟨trivial, trivial⟩ ?_
                      by_cases c209 : (am_bz r208) ≠ 0
                      · rw [if_pos c209] at h
                        refine am_ev_pos c209 ?_
                        obtain ⟨vf_208, vu_208, vx_208⟩ := V_208
                        try dsimp only at h
                        refine am_ev_st 7 (f' := (13, [(6, .int (0 : Int32)), (5, .int (0 : Int32)), (4, .int r7), (0, .ref 19), (1, .int v1_6), (2, .int v2_6), (3, .int v3_6)], [], (W9 N C E F P Q T (gc, gb) U H B_208 O_207 J_208 (vf_208, (vu_208 + (1 : Int32)), vx_208) Y Z O9), k, n)) (g := True ∧ True ∧ True ∧ True ∧ True ∧ True ∧ True ∧ True) (by with_unfolding_all rfl) ⟨trivial, trivial, trivial, trivial, trivial, trivial, trivial, trivial⟩ ?_
                        refine am_ev_drop [3, 4, 5] rfl rfl ?_
                        exact ih h
                      · rw [if_neg c209] at h
                        refine am_ev_neg c209 ?_
                        cases h
                        exact am_ev_vret 0 0 0 rfl rfl rfl
                    · rw [if_neg c202] at h
                      refine am_ev_neg c202 ?_
                      refine am_ev_st 5 (f' := (137, [(6, .int (0 : Int32)), (5, .int (0 : Int32)), (4, .int r7), (0, .ref 19), (1, .int v1_6), (2, .int v2_6), (3, .int v3_6)], [.int (v3_6 + (1 : Int32)), .int v1_6, .ref 19], (W9 N C E F P Q T (gc, gb) U H B_6 O_201 J_6 (vf_6, vu_6, vx_6) Y Z O9), k, n)) (g := True ∧ True ∧ True ∧ True ∧ True ∧ True) (by with_unfolding_all rfl) ⟨trivial, trivial, trivial, trivial, trivial, trivial⟩ ?_
                      replace h := Option.bind_eq_some_iff.mp h
                      obtain ⟨r210, hc210, h⟩ := h
                      try dsimp only at h
                      refine am_ev_call (.invokevirtual 77) 82 4 853 [.ref 19, .int v1_6, .int (v3_6 + (1 : Int32))] [] rfl rfl rfl rfl (ok_fm_endOf hc210 D (by omega)) rfl ?_
                      refine am_ev_st 4 (f' := (146, [(7, .int r210), (6, .int (0 : Int32)), (5, .int (0 : Int32)), (4, .int r7), (0, .ref 19), (1, .int v1_6), (2, .int v2_6), (3, .int v3_6)], [.int r210, .int v1_6, .ref 19], (W9 N C E F P Q T (gc, gb) U H B_6 O_201 J_6 (vf_6, vu_6, vx_6) Y Z O9), k, n)) (g := True ∧ True ∧ True ∧ True ∧ True) (by with_unfolding_all rfl) ⟨trivial, trivial, trivial, trivial, trivial⟩ ?_
                      replace h := Option.bind_eq_some_iff.mp h
                      obtain ⟨r211, hc211, h⟩ := h
                      try dsimp only at h
                      refine am_ev_call (.invokevirtual 77) 82 4 853 [.ref 19, .int v1_6, .int r210] [] rfl rfl rfl rfl (ok_fm_endOf hc211 D (by omega)) rfl ?_
                      refine am_ev_st 4 (f' := (155, [(8, .int r211), (7, .int r210), (6, .int (0 : Int32)), (5, .int (0 : Int32)), (4, .int r7), (0, .ref 19), (1, .int v1_6), (2, .int v2_6), (3, .int v3_6)], [.int r211, .int v1_6, .ref 19], (W9 N C E F P Q T (gc, gb) U H B_6 O_201 J_6 (vf_6, vu_6, vx_6) Y Z O9), k, n)) (g := True ∧ True ∧ True ∧ True ∧ True) (by with_unfolding_all rfl) ⟨trivial, trivial, trivial, trivial, trivial⟩ ?_
                      replace h := Option.bind_eq_some_iff.mp h
                      obtain ⟨r212, hc212, h⟩ := h
                      try dsimp only at h
                      refine am_ev_call (.invokevirtual 77) 82 4 853 [.ref 19, .int v1_6, .int r211] [] rfl rfl rfl rfl (ok_fm_endOf hc212 D (by omega)) rfl ?_
                      refine am_ev_st 7 (f' := (166, [(9, .int r212), (8, .int r211), (7, .int r210), (6, .int (0 : Int32)), (5, .int (0 : Int32)), (4, .int r7), (0, .ref 19), (1, .int v1_6), (2, .int v2_6), (3, .int v3_6)], [.int (v3_6 - (1 : Int32)), .int (0 : Int32), .int v1_6, .ref 19], (W9 N C E F P Q T (gc, gb) U H B_6 O_201 J_6 (vf_6, vu_6, vx_6) Y Z O9), k, n)) (g := True ∧ True ∧ True ∧ True ∧ True ∧ True ∧ True ∧ True) (by with_unfolding_all rfl) ⟨trivial, trivial, trivial, trivial, trivial, trivial, trivial, trivial⟩ ?_
                      replace h := Option.bind_eq_some_iff.mp h
                      obtain ⟨O_213, hc213, h⟩ := h
                      try dsimp only at h
                      refine am_ev_call (.invokevirtual 117) 90 6 869 [.ref 19, .int v1_6, .int (0 : Int32), .int (v3_6 - (1 : Int32))] [] rfl rfl rfl rfl (ok_fm_putAll hc213 D (by omega)) rfl ?_
                      refine am_ev_st 7 (f' := (180, [(9, .int r212), (8, .int r211), (7, .int r210), (6, .int (0 : Int32)), (5, .int (0 : Int32)), (4, .int r7), (0, .ref 19), (1, .int v1_6), (2, .int v2_6), (3, .int v3_6)], [.int r212, .int r211, .int v1_6, .int r211, .int r210, .int v1_6, .ref 19], (W9 N C E F P Q T (gc, gb) U H B_6 O_213 J_6 (vf_6, vu_6, vx_6) Y Z O9), k, n)) (g := True ∧ True ∧ True ∧ True ∧ True ∧ True ∧ True ∧ True) (by with_unfolding_all rfl) ⟨trivial, trivial, trivial, trivial, trivial, trivial, trivial, trivial⟩ ?_
                      replace h := Option.bind_eq_some_iff.mp h
                      obtain ⟨⟨O_214, J_214⟩, hc214, h⟩ := h
                      try dsimp only at h
                      refine am_ev_call (.invokevirtual 121) 92 12 877 [.ref 19, .int v1_6, .int r210, .int r211, .int v1_6, .int r211, .int r212] [] rfl rfl rfl rfl (ok_fm_putFor hc214 D (by omega)) rfl ?_
                      obtain ⟨br_6, bl_6⟩ := B_6
                      try dsimp only at h
                      by_cases g215 : (v1_6 < 0 ∨ 96 ≤ (v1_6).toNatClampNeg)
                      · rw [if_pos g215] at h; cases h
                      rw [if_neg g215] at h
                      refine am_ev_st 7 (f' := (193, [(9, .int r212), (8, .int r211), (7, .int r210), (6, .int (0 : Int32)), (5, .int (0 : Int32)), (4, .int r7), (0, .ref 19), (1, .int v1_6), (2, .int v2_6), (3, .int v3_6)], [.int (bl_6 (v1_6).toNatClampNeg), .int r212, .int v1_6, .ref 19], (W9 N C E F P Q T (gc, gb) U H (br_6, bl_6) O_214 J_214 (vf_6, vu_6, vx_6) Y Z O9), k, n)) (g := True ∧ True ∧ True ∧ True ∧ True ∧ True ∧ vp_in (v1_6) 96 ∧ True) (by with_unfolding_all rfl) ⟨trivial, trivial, trivial, trivial, trivial, trivial, g215, trivial⟩ ?_
                      replace h := Option.bind_eq_some_iff.mp h
                      obtain ⟨O_216, hc216, h⟩ := h
                      try dsimp only at h
                      refine am_ev_call (.invokevirtual 117) 90 6 869 [.ref 19, .int v1_6, .int r212, .int (bl_6 (v1_6).toNatClampNeg)] [] rfl rfl rfl rfl (ok_fm_putAll hc216 D (by omega)) rfl ?_
                      refine am_ev_st 3 (f' := (248, [(9, .int r212), (8, .int r211), (7, .int r210), (6, .int (0 : Int32)), (5, .int (0 : Int32)), (4, .int r7), (0, .ref 19), (1, .int v1_6), (2, .int v2_6), (3, .int v3_6)], [.int v1_6, .ref 19], (W9 N C E F P Q T (gc, gb) U H (br_6, bl_6) O_216 J_214 (vf_6, vu_6, vx_6) Y Z O9), k, n)) (g := True ∧ True ∧ True ∧ True) (by with_unfolding_all rfl) ⟨trivial, trivial, trivial, trivial⟩ ?_
                      replace h := Option.bind_eq_some_iff.mp h
                      obtain ⟨⟨r217, B_217, J_217, V_217⟩, hc217, h⟩ := h
                      try dsimp only at h
                      refine am_ev_call (.invokevirtual 125) 93 2 885 [.ref 19, .int v1_6] [] rfl rfl rfl rfl (ok_fm_take hc217 D (by omega)) rfl ?_
                      refine am_ev_st 1 (f' := am_br ((am_bz r217) ≠ 0) 255 251 [(9, .int r212), (8, .int r211), (7, .int r210), (6, .int (0 : Int32)), (5, .int (0 : Int32)), (4, .int r7), (0, .ref 19), (1, .int v1_6), (2, .int v2_6), (3, .int v3_6)] [] (W9 N C E F P Q T (gc, gb) U H B_217 O_216 J_217 V_217 Y Z O9) k n) (g := True ∧ True) (by with_unfolding_all rfl) ⟨trivial, trivial⟩ ?_
                      by_cases c218 : (am_bz r217) ≠ 0
                      · rw [if_pos c218] at h
                        refine am_ev_pos c218 ?_
                        obtain ⟨vf_217, vu_217, vx_217⟩ := V_217
                        try dsimp only at h
                        refine am_ev_st 7 (f' := (13, [(9, .int r212), (8, .int r211), (7, .int r210), (6, .int (0 : Int32)), (5, .int (0 : Int32)), (4, .int r7), (0, .ref 19), (1, .int v1_6), (2, .int v2_6), (3, .int v3_6)], [], (W9 N C E F P Q T (gc, gb) U H B_217 O_216 J_217 (vf_217, (vu_217 + (1 : Int32)), vx_217) Y Z O9), k, n)) (g := True ∧ True ∧ True ∧ True ∧ True ∧ True ∧ True ∧ True) (by with_unfolding_all rfl) ⟨trivial, trivial, trivial, trivial, trivial, trivial, trivial, trivial⟩ ?_
                        refine am_ev_drop [6, 7, 8] rfl rfl ?_
                        exact ih h
                      · rw [if_neg c218] at h
                        refine am_ev_neg c218 ?_
                        cases h
                        exact am_ev_vret 0 0 0 rfl rfl rfl
                  · rw [if_neg c200] at h
                    refine am_ev_neg c200 ?_
                    refine am_ev_st 3 (f' := (122, [(6, .int (0 : Int32)), (5, .int (0 : Int32)), (4, .int r7), (0, .ref 19), (1, .int v1_6), (2, .int v2_6), (3, .int v3_6)], [], (W9 N C E F P Q T (gc, gb) U H B_6 O_6 J_6 (vf_6, vu_6, (3 : Int32)) Y Z O9), k, n)) (g := True ∧ True ∧ True ∧ True) (by with_unfolding_all rfl) ⟨trivial, trivial, trivial, trivial⟩ ?_
                    cases h
                    exact am_ev_vret 0 0 0 rfl rfl rfl
                · rw [if_neg c199] at h
                  refine am_ev_neg c199 ?_
                  cases h
                  exact am_ev_vret 0 0 0 rfl rfl rfl
            · rw [if_neg c178] at h
              refine am_ev_neg c178 ?_
              refine am_ev_st 5 (f' := am_br ((0 : Int32) ≠ 0) 106 97 [(6, .int (1 : Int32)), (5, .int (0 : Int32)), (4, .int r7), (0, .ref 19), (1, .int v1_6), (2, .int v2_6), (3, .int v3_6)] [] (W9 N C E F P Q T (gc, gb) U H B_6 O_6 J_6 V_6 Y Z O9) k n) (g := True ∧ True ∧ True ∧ True ∧ True ∧ True) (by with_unfolding_all rfl) ⟨trivial, trivial, trivial, trivial, trivial, trivial⟩ ?_
              by_cases c219 : (0 : Int32) ≠ 0
              · rw [if_pos c219] at h
                refine am_ev_pos c219 ?_
                obtain ⟨vf_6, vu_6, vx_6⟩ := V_6
                try dsimp only at h
                refine am_ev_st 5 (f' := am_br (vu_6 ≠ vf_6) 123 114 [(6, .int (1 : Int32)), (5, .int (0 : Int32)), (4, .int r7), (0, .ref 19), (1, .int v1_6), (2, .int v2_6), (3, .int v3_6)] [] (W9 N C E F P Q T (gc, gb) U H B_6 O_6 J_6 (vf_6, vu_6, vx_6) Y Z O9) k n) (g := True ∧ True ∧ True ∧ True ∧ True ∧ True) (by with_unfolding_all rfl) ⟨trivial, trivial, trivial, trivial, trivial, trivial⟩ ?_
                by_cases c220 : vu_6 ≠ vf_6
                · rw [if_pos c220] at h
                  refine am_ev_pos c220 ?_
                  refine am_ev_st 1 (f' := (124, [(6, .int (1 : Int32)), (5, .int (0 : Int32)), (4, .int r7), (0, .ref 19), (1, .int v1_6), (2, .int v2_6), (3, .int v3_6)], [.ref 19], (W9 N C E F P Q T (gc, gb) U H B_6 O_6 J_6 (vf_6, vu_6, vx_6) Y Z O9), k, n)) (g := True ∧ True) (by with_unfolding_all rfl) ⟨trivial, trivial⟩ ?_
                  replace h := Option.bind_eq_some_iff.mp h
                  obtain ⟨O_221, hc221, h⟩ := h
                  try dsimp only at h
                  refine am_ev_call (.invokevirtual 114) 88 0 865 [.ref 19] [] rfl rfl rfl rfl (ok_fm_begin hc221 D (by omega)) rfl ?_
                  refine am_ev_st 2 (f' := am_br ((0 : Int32) = 0) 199 129 [(6, .int (1 : Int32)), (5, .int (0 : Int32)), (4, .int r7), (0, .ref 19), (1, .int v1_6), (2, .int v2_6), (3, .int v3_6)] [] (W9 N C E F P Q T (gc, gb) U H B_6 O_221 J_6 (vf_6, vu_6, vx_6) Y Z O9) k n) (g := True ∧ True ∧ True) (by with_unfolding_all rfl) ⟨trivial, trivial, trivial⟩ ?_
                  by_cases c222 : (0 : Int32) = 0
                  · rw [if_pos c222] at h
                    refine am_ev_pos c222 ?_
                    refine am_ev_st 4 (f' := (203, [(6, .int (1 : Int32)), (5, .int (0 : Int32)), (4, .int r7), (0, .ref 19), (1, .int v1_6), (2, .int v2_6), (3, .int v3_6)], [.int v3_6, .int (0 : Int32), .int v1_6, .ref 19], (W9 N C E F P Q T (gc, gb) U H B_6 O_221 J_6 (vf_6, vu_6, vx_6) Y Z O9), k, n)) (g := True ∧ True ∧ True ∧ True ∧ True) (by with_unfolding_all rfl) ⟨trivial, trivial, trivial, trivial, trivial⟩ ?_
                    replace h := Option.bind_eq_some_iff.mp h
                    obtain ⟨O_223, hc223, h⟩ := h
                    try dsimp only at h
                    refine am_ev_call (.invokevirtual 117) 90 6 869 [.ref 19, .int v1_6, .int (0 : Int32), .int v3_6] [] rfl rfl rfl rfl (ok_fm_putAll hc223 D (by omega)) rfl ?_
                    obtain ⟨br_6, bl_6⟩ := B_6
                    try dsimp only at h
                    by_cases g224 : (((80 : Int32) + (r7 / (10 : Int32))) < 0 ∨ 96 ≤ (((80 : Int32) + (r7 / (10 : Int32)))).toNatClampNeg)
                    · rw [if_pos g224] at h; cases h
                    rw [if_neg g224] at h
                    refine am_ev_st 15 (f' := (229, [(6, .int (1 : Int32)), (5, .int (0 : Int32)), (4, .int r7), (0, .ref 19), (1, .int v1_6), (2, .int v2_6), (3, .int v3_6)], [.int (bl_6 (((80 : Int32) + (r7 / (10 : Int32)))).toNatClampNeg), .int (0 : Int32), .int ((80 : Int32) + (r7 / (10 : Int32))), .ref 19], (W9 N C E F P Q T (gc, gb) U H (br_6, bl_6) O_223 J_6 (vf_6, vu_6, vx_6) Y Z O9), k, n)) (g := True ∧ True ∧ True ∧ True ∧ ¬ ((10 : Int32) = 0) ∧ True ∧ True ∧ True ∧ True ∧ True ∧ True ∧ True ∧ ¬ ((10 : Int32) = 0) ∧ True ∧ vp_in (((80 : Int32) + (r7 / (10 : Int32)))) 96 ∧ True) (by with_unfolding_all rfl) ⟨trivial, trivial, trivial, trivial, by decide, trivial, trivial, trivial, trivial, trivial, trivial, trivial, by decide, trivial, g224, trivial⟩ ?_
                    replace h := Option.bind_eq_some_iff.mp h
                    obtain ⟨O_225, hc225, h⟩ := h
                    try dsimp only at h
                    refine am_ev_call (.invokevirtual 117) 90 6 869 [.ref 19, .int ((80 : Int32) + (r7 / (10 : Int32))), .int (0 : Int32), .int (bl_6 (((80 : Int32) + (r7 / (10 : Int32)))).toNatClampNeg)] [] rfl rfl rfl rfl (ok_fm_putAll hc225 D (by omega)) rfl ?_
                    by_cases g226 : (v1_6 < 0 ∨ 96 ≤ (v1_6).toNatClampNeg)
                    · rw [if_pos g226] at h; cases h
                    rw [if_neg g226] at h
                    refine am_ev_st 9 (f' := (243, [(6, .int (1 : Int32)), (5, .int (0 : Int32)), (4, .int r7), (0, .ref 19), (1, .int v1_6), (2, .int v2_6), (3, .int v3_6)], [.int (bl_6 (v1_6).toNatClampNeg), .int (v3_6 + (1 : Int32)), .int v1_6, .ref 19], (W9 N C E F P Q T (gc, gb) U H (br_6, bl_6) O_225 J_6 (vf_6, vu_6, vx_6) Y Z O9), k, n)) (g := True ∧ True ∧ True ∧ True ∧ True ∧ True ∧ True ∧ True ∧ vp_in (v1_6) 96 ∧ True) (by with_unfolding_all rfl) ⟨trivial, trivial, trivial, trivial, trivial, trivial, trivial, trivial, g226, trivial⟩ ?_
                    replace h := Option.bind_eq_some_iff.mp h
                    obtain ⟨O_227, hc227, h⟩ := h
                    try dsimp only at h
                    refine am_ev_call (.invokevirtual 117) 90 6 869 [.ref 19, .int v1_6, .int (v3_6 + (1 : Int32)), .int (bl_6 (v1_6).toNatClampNeg)] [] rfl rfl rfl rfl (ok_fm_putAll hc227 D (by omega)) rfl ?_
                    refine am_ev_st 2 (f' := (248, [(6, .int (1 : Int32)), (5, .int (0 : Int32)), (4, .int r7), (0, .ref 19), (1, .int v1_6), (2, .int v2_6), (3, .int v3_6)], [.int v1_6, .ref 19], (W9 N C E F P Q T (gc, gb) U H (br_6, bl_6) O_227 J_6 (vf_6, vu_6, vx_6) Y Z O9), k, n)) (g := True ∧ True ∧ True) (by with_unfolding_all rfl) ⟨trivial, trivial, trivial⟩ ?_
                    replace h := Option.bind_eq_some_iff.mp h
                    obtain ⟨⟨r228, B_228, J_228, V_228⟩, hc228, h⟩ := h
                    try dsimp only at h
                    refine am_ev_call (.invokevirtual 125) 93 2 885 [.ref 19, .int v1_6] [] rfl rfl rfl rfl (ok_fm_take hc228 D (by omega)) rfl ?_
                    refine am_ev_st 1 (f' := am_br ((am_bz r228) ≠ 0) 255 251 [(6, .int (1 : Int32)), (5, .int (0 : Int32)), (4, .int r7), (0, .ref 19), (1, .int v1_6), (2, .int v2_6), (3, .int v3_6)] [] (W9 N C E F P Q T (gc, gb) U H B_228 O_227 J_228 V_228 Y Z O9) k n) (g := True ∧ True) (by with_unfolding_all rfl) ⟨trivial, trivial⟩ ?_
                    by_cases c229 : (am_bz r228) ≠ 0
                    · rw [if_pos c229] at h
                      refine am_ev_pos c229 ?_
                      obtain ⟨vf_228, vu_228, vx_228⟩ := V_228
                      try dsimp only at h
                      refine am_ev_st 7 (f' := (13, [(6, .int (1 : Int32)), (5, .int (0 : Int32)), (4, .int r7), (0, .ref 19), (1, .int v1_6), (2, .int v2_6), (3, .int v3_6)], [], (W9 N C E F P Q T (gc, gb) U H B_228 O_227 J_228 (vf_228, (vu_228 + (1 : Int32)), vx_228) Y Z O9), k, n)) (g := True ∧ True ∧ True ∧ True ∧ True ∧ True ∧ True ∧ True) (by with_unfolding_all rfl) ⟨trivial, trivial, trivial, trivial, trivial, trivial, trivial, trivial⟩ ?_
                      refine am_ev_drop [3, 4, 5] rfl rfl ?_
                      exact ih h
                    · rw [if_neg c229] at h
                      refine am_ev_neg c229 ?_
                      cases h
                      exact am_ev_vret 0 0 0 rfl rfl rfl
                  · rw [if_neg c222] at h
                    refine am_ev_neg c222 ?_
                    refine am_ev_st 5 (f' := (137, [(6, .int (1 : Int32)), (5, .int (0 : Int32)), (4, .int r7), (0, .ref 19), (1, .int v1_6), (2, .int v2_6), (3, .int v3_6)], [.int (v3_6 + (1 : Int32)), .int v1_6, .ref 19], (W9 N C E F P Q T (gc, gb) U H B_6 O_221 J_6 (vf_6, vu_6, vx_6) Y Z O9), k, n)) (g := True ∧ True ∧ True ∧ True ∧ True ∧ True) (by with_unfolding_all rfl) ⟨trivial, trivial, trivial, trivial, trivial, trivial⟩ ?_
                    replace h := Option.bind_eq_some_iff.mp h
                    obtain ⟨r230, hc230, h⟩ := h
                    try dsimp only at h
                    refine am_ev_call (.invokevirtual 77) 82 4 853 [.ref 19, .int v1_6, .int (v3_6 + (1 : Int32))] [] rfl rfl rfl rfl (ok_fm_endOf hc230 D (by omega)) rfl ?_
                    refine am_ev_st 4 (f' := (146, [(7, .int r230), (6, .int (1 : Int32)), (5, .int (0 : Int32)), (4, .int r7), (0, .ref 19), (1, .int v1_6), (2, .int v2_6), (3, .int v3_6)], [.int r230, .int v1_6, .ref 19], (W9 N C E F P Q T (gc, gb) U H B_6 O_221 J_6 (vf_6, vu_6, vx_6) Y Z O9), k, n)) (g := True ∧ True ∧ True ∧ True ∧ True) (by with_unfolding_all rfl) ⟨trivial, trivial, trivial, trivial, trivial⟩ ?_
                    replace h := Option.bind_eq_some_iff.mp h
                    obtain ⟨r231, hc231, h⟩ := h
                    try dsimp only at h
                    refine am_ev_call (.invokevirtual 77) 82 4 853 [.ref 19, .int v1_6, .int r230] [] rfl rfl rfl rfl (ok_fm_endOf hc231 D (by omega)) rfl ?_
                    refine am_ev_st 4 (f' := (155, [(8, .int r231), (7, .int r230), (6, .int (1 : Int32)), (5, .int (0 : Int32)), (4, .int r7), (0, .ref 19), (1, .int v1_6), (2, .int v2_6), (3, .int v3_6)], [.int r231, .int v1_6, .ref 19], (W9 N C E F P Q T (gc, gb) U H B_6 O_221 J_6 (vf_6, vu_6, vx_6) Y Z O9), k, n)) (g := True ∧ True ∧ True ∧ True ∧ True) (by with_unfolding_all rfl) ⟨trivial, trivial, trivial, trivial, trivial⟩ ?_
                    replace h := Option.bind_eq_some_iff.mp h
                    obtain ⟨r232, hc232, h⟩ := h
                    try dsimp only at h
                    refine am_ev_call (.invokevirtual 77) 82 4 853 [.ref 19, .int v1_6, .int r231] [] rfl rfl rfl rfl (ok_fm_endOf hc232 D (by omega)) rfl ?_
                    refine am_ev_st 7 (f' := (166, [(9, .int r232), (8, .int r231), (7, .int r230), (6, .int (1 : Int32)), (5, .int (0 : Int32)), (4, .int r7), (0, .ref 19), (1, .int v1_6), (2, .int v2_6), (3, .int v3_6)], [.int (v3_6 - (1 : Int32)), .int (0 : Int32), .int v1_6, .ref 19], (W9 N C E F P Q T (gc, gb) U H B_6 O_221 J_6 (vf_6, vu_6, vx_6) Y Z O9), k, n)) (g := True ∧ True ∧ True ∧ True ∧ True ∧ True ∧ True ∧ True) (by with_unfolding_all rfl) ⟨trivial, trivial, trivial, trivial, trivial, trivial, trivial, trivial⟩ ?_
                    replace h := Option.bind_eq_some_iff.mp h
                    obtain ⟨O_233, hc233, h⟩ := h
                    try dsimp only at h
                    refine am_ev_call (.invokevirtual 117) 90 6 869 [.ref 19, .int v1_6, .int (0 : Int32), .int (v3_6 - (1 : Int32))] [] rfl rfl rfl rfl (ok_fm_putAll hc233 D (by omega)) rfl ?_
                    refine am_ev_st 7 (f' := (180, [(9, .int r232), (8, .int r231), (7, .int r230), (6, .int (1 : Int32)), (5, .int (0 : Int32)), (4, .int r7), (0, .ref 19), (1, .int v1_6), (2, .int v2_6), (3, .int v3_6)], [.int r232, .int r231, .int v1_6, .int r231, .int r230, .int v1_6, .ref 19], (W9 N C E F P Q T (gc, gb) U H B_6 O_233 J_6 (vf_6, vu_6, vx_6) Y Z O9), k, n)) (g := True ∧ True ∧ True ∧ True ∧ True ∧ True ∧ True ∧ True) (by with_unfolding_all rfl) ⟨trivial, trivial, trivial, trivial, trivial, trivial, trivial, trivial⟩ ?_
                    replace h := Option.bind_eq_some_iff.mp h
                    obtain ⟨⟨O_234, J_234⟩, hc234, h⟩ := h
                    try dsimp only at h
                    refine am_ev_call (.invokevirtual 121) 92 12 877 [.ref 19, .int v1_6, .int r230, .int r231, .int v1_6, .int r231, .int r232] [] rfl rfl rfl rfl (ok_fm_putFor hc234 D (by omega)) rfl ?_
                    obtain ⟨br_6, bl_6⟩ := B_6
                    try dsimp only at h
                    by_cases g235 : (v1_6 < 0 ∨ 96 ≤ (v1_6).toNatClampNeg)
                    · rw [if_pos g235] at h; cases h
                    rw [if_neg g235] at h
                    refine am_ev_st 7 (f' := (193, [(9, .int r232), (8, .int r231), (7, .int r230), (6, .int (1 : Int32)), (5, .int (0 : Int32)), (4, .int r7), (0, .ref 19), (1, .int v1_6), (2, .int v2_6), (3, .int v3_6)], [.int (bl_6 (v1_6).toNatClampNeg), .int r232, .int v1_6, .ref 19], (W9 N C E F P Q T (gc, gb) U H (br_6, bl_6) O_234 J_234 (vf_6, vu_6, vx_6) Y Z O9), k, n)) (g := True ∧ True ∧ True ∧ True ∧ True ∧ True ∧ vp_in (v1_6) 96 ∧ True) (by with_unfolding_all rfl) ⟨trivial, trivial, trivial, trivial, trivial, trivial, g235, trivial⟩ ?_
                    replace h := Option.bind_eq_some_iff.mp h
                    obtain ⟨O_236, hc236, h⟩ := h
                    try dsimp only at h
                    refine am_ev_call (.invokevirtual 117) 90 6 869 [.ref 19, .int v1_6, .int r232, .int (bl_6 (v1_6).toNatClampNeg)] [] rfl rfl rfl rfl (ok_fm_putAll hc236 D (by omega)) rfl ?_
                    refine am_ev_st 3 (f' := (248, [(9, .int r232), (8, .int r231), (7, .int r230), (6, .int (1 : Int32)), (5, .int (0 : Int32)), (4, .int r7), (0, .ref 19), (1, .int v1_6), (2, .int v2_6), (3, .int v3_6)], [.int v1_6, .ref 19], (W9 N C E F P Q T (gc, gb) U H (br_6, bl_6) O_236 J_234 (vf_6, vu_6, vx_6) Y Z O9), k, n)) (g := True ∧ True ∧ True ∧ True) (by with_unfolding_all rfl) ⟨trivial, trivial, trivial, trivial⟩ ?_
                    replace h := Option.bind_eq_some_iff.mp h
                    obtain ⟨⟨r237, B_237, J_237, V_237⟩, hc237, h⟩ := h
                    try dsimp only at h
                    refine am_ev_call (.invokevirtual 125) 93 2 885 [.ref 19, .int v1_6] [] rfl rfl rfl rfl (ok_fm_take hc237 D (by omega)) rfl ?_
                    refine am_ev_st 1 (f' := am_br ((am_bz r237) ≠ 0) 255 251 [(9, .int r232), (8, .int r231), (7, .int r230), (6, .int (1 : Int32)), (5, .int (0 : Int32)), (4, .int r7), (0, .ref 19), (1, .int v1_6), (2, .int v2_6), (3, .int v3_6)] [] (W9 N C E F P Q T (gc, gb) U H B_237 O_236 J_237 V_237 Y Z O9) k n) (g := True ∧ True) (by with_unfolding_all rfl) ⟨trivial, trivial⟩ ?_
                    by_cases c238 : (am_bz r237) ≠ 0
                    · rw [if_pos c238] at h
                      refine am_ev_pos c238 ?_
                      obtain ⟨vf_237, vu_237, vx_237⟩ := V_237
                      try dsimp only at h
                      refine am_ev_st 7 (f' := (13, [(9, .int r232), (8, .int r231), (7, .int r230), (6, .int (1 : Int32)), (5, .int (0 : Int32)), (4, .int r7), (0, .ref 19), (1, .int v1_6), (2, .int v2_6), (3, .int v3_6)], [], (W9 N C E F P Q T (gc, gb) U H B_237 O_236 J_237 (vf_237, (vu_237 + (1 : Int32)), vx_237) Y Z O9), k, n)) (g := True ∧ True ∧ True ∧ True ∧ True ∧ True ∧ True ∧ True) (by with_unfolding_all rfl) ⟨trivial, trivial, trivial, trivial, trivial, trivial, trivial, trivial⟩ ?_
                      refine am_ev_drop [6, 7, 8] rfl rfl ?_
                      exact ih h
                    · rw [if_neg c238] at h
                      refine am_ev_neg c238 ?_
                      cases h
                      exact am_ev_vret 0 0 0 rfl rfl rfl
                · rw [if_neg c220] at h
                  refine am_ev_neg c220 ?_
                  refine am_ev_st 3 (f' := (122, [(6, .int (1 : Int32)), (5, .int (0 : Int32)), (4, .int r7), (0, .ref 19), (1, .int v1_6), (2, .int v2_6), (3, .int v3_6)], [], (W9 N C E F P Q T (gc, gb) U H B_6 O_6 J_6 (vf_6, vu_6, (3 : Int32)) Y Z O9), k, n)) (g := True ∧ True ∧ True ∧ True) (by with_unfolding_all rfl) ⟨trivial, trivial, trivial, trivial⟩ ?_
                  cases h
                  exact am_ev_vret 0 0 0 rfl rfl rfl
              · rw [if_neg c219] at h
                refine am_ev_neg c219 ?_
                refine am_ev_st 2 (f' := am_br ((1 : Int32) ≠ 0) 106 102 [(6, .int (1 : Int32)), (5, .int (0 : Int32)), (4, .int r7), (0, .ref 19), (1, .int v1_6), (2, .int v2_6), (3, .int v3_6)] [] (W9 N C E F P Q T (gc, gb) U H B_6 O_6 J_6 V_6 Y Z O9) k n) (g := True ∧ True ∧ True) (by with_unfolding_all rfl) ⟨trivial, trivial, trivial⟩ ?_
                by_cases c239 : (1 : Int32) ≠ 0
                · rw [if_pos c239] at h
                  refine am_ev_pos c239 ?_
                  obtain ⟨vf_6, vu_6, vx_6⟩ := V_6
                  try dsimp only at h
                  refine am_ev_st 5 (f' := am_br (vu_6 ≠ vf_6) 123 114 [(6, .int (1 : Int32)), (5, .int (0 : Int32)), (4, .int r7), (0, .ref 19), (1, .int v1_6), (2, .int v2_6), (3, .int v3_6)] [] (W9 N C E F P Q T (gc, gb) U H B_6 O_6 J_6 (vf_6, vu_6, vx_6) Y Z O9) k n) (g := True ∧ True ∧ True ∧ True ∧ True ∧ True) (by with_unfolding_all rfl) ⟨trivial, trivial, trivial, trivial, trivial, trivial⟩ ?_
                  by_cases c240 : vu_6 ≠ vf_6
                  · rw [if_pos c240] at h
                    refine am_ev_pos c240 ?_
                    refine am_ev_st 1 (f' := (124, [(6, .int (1 : Int32)), (5, .int (0 : Int32)), (4, .int r7), (0, .ref 19), (1, .int v1_6), (2, .int v2_6), (3, .int v3_6)], [.ref 19], (W9 N C E F P Q T (gc, gb) U H B_6 O_6 J_6 (vf_6, vu_6, vx_6) Y Z O9), k, n)) (g := True ∧ True) (by with_unfolding_all rfl) ⟨trivial, trivial⟩ ?_
                    replace h := Option.bind_eq_some_iff.mp h
                    obtain ⟨O_241, hc241, h⟩ := h
                    try dsimp only at h
                    refine am_ev_call (.invokevirtual 114) 88 0 865 [.ref 19] [] rfl rfl rfl rfl (ok_fm_begin hc241 D (by omega)) rfl ?_
                    refine am_ev_st 2 (f' := am_br ((0 : Int32) = 0) 199 129 [(6, .int (1 : Int32)), (5, .int (0 : Int32)), (4, .int r7), (0, .ref 19), (1, .int v1_6), (2, .int v2_6), (3, .int v3_6)] [] (W9 N C E F P Q T (gc, gb) U H B_6 O_241 J_6 (vf_6, vu_6, vx_6) Y Z O9) k n) (g := True ∧ True ∧ True) (by with_unfolding_all rfl) ⟨trivial, trivial, trivial⟩ ?_
                    by_cases c242 : (0 : Int32) = 0
                    · rw [if_pos c242] at h
                      refine am_ev_pos c242 ?_
                      refine am_ev_st 4 (f' := (203, [(6, .int (1 : Int32)), (5, .int (0 : Int32)), (4, .int r7), (0, .ref 19), (1, .int v1_6), (2, .int v2_6), (3, .int v3_6)], [.int v3_6, .int (0 : Int32), .int v1_6, .ref 19], (W9 N C E F P Q T (gc, gb) U H B_6 O_241 J_6 (vf_6, vu_6, vx_6) Y Z O9), k, n)) (g := True ∧ True ∧ True ∧ True ∧ True) (by with_unfolding_all rfl) ⟨trivial, trivial, trivial, trivial, trivial⟩ ?_
                      replace h := Option.bind_eq_some_iff.mp h
                      obtain ⟨O_243, hc243, h⟩ := h
                      try dsimp only at h
                      refine am_ev_call (.invokevirtual 117) 90 6 869 [.ref 19, .int v1_6, .int (0 : Int32), .int v3_6] [] rfl rfl rfl rfl (ok_fm_putAll hc243 D (by omega)) rfl ?_
                      obtain ⟨br_6, bl_6⟩ := B_6
                      try dsimp only at h
                      by_cases g244 : (((80 : Int32) + (r7 / (10 : Int32))) < 0 ∨ 96 ≤ (((80 : Int32) + (r7 / (10 : Int32)))).toNatClampNeg)
                      · rw [if_pos g244] at h; cases h
                      rw [if_neg g244] at h
                      refine am_ev_st 15 (f' := (229, [(6, .int (1 : Int32)), (5, .int (0 : Int32)), (4, .int r7), (0, .ref 19), (1, .int v1_6), (2, .int v2_6), (3, .int v3_6)], [.int (bl_6 (((80 : Int32) + (r7 / (10 : Int32)))).toNatClampNeg), .int (0 : Int32), .int ((80 : Int32) + (r7 / (10 : Int32))), .ref 19], (W9 N C E F P Q T (gc, gb) U H (br_6, bl_6) O_243 J_6 (vf_6, vu_6, vx_6) Y Z O9), k, n)) (g := True ∧ True ∧ True ∧ True ∧ ¬ ((10 : Int32) = 0) ∧ True ∧ True ∧ True ∧ True ∧ True ∧ True ∧ True ∧ ¬ ((10 : Int32) = 0) ∧ True ∧ vp_in (((80 : Int32) + (r7 / (10 : Int32)))) 96 ∧ True) (by with_unfolding_all rfl) ⟨trivial, trivial, trivial, trivial, by decide, trivial, trivial, trivial, trivial, trivial, trivial, trivial, by decide, trivial, g244, trivial⟩ ?_
                      replace h := Option.bind_eq_some_iff.mp h
                      obtain ⟨O_245, hc245, h⟩ := h
                      try dsimp only at h
                      refine am_ev_call (.invokevirtual 117) 90 6 869 [.ref 19, .int ((80 : Int32) + (r7 / (10 : Int32))), .int (0 : Int32), .int (bl_6 (((80 : Int32) + (r7 / (10 : Int32)))).toNatClampNeg)] [] rfl rfl rfl rfl (ok_fm_putAll hc245 D (by omega)) rfl ?_
                      by_cases g246 : (v1_6 < 0 ∨ 96 ≤ (v1_6).toNatClampNeg)
                      · rw [if_pos g246] at h; cases h
                      rw [if_neg g246] at h
                      refine am_ev_st 9 (f' := (243, [(6, .int (1 : Int32)), (5, .int (0 : Int32)), (4, .int r7), (0, .ref 19), (1, .int v1_6), (2, .int v2_6), (3, .int v3_6)], [.int (bl_6 (v1_6).toNatClampNeg), .int (v3_6 + (1 : Int32)), .int v1_6, .ref 19], (W9 N C E F P Q T (gc, gb) U H (br_6, bl_6) O_245 J_6 (vf_6, vu_6, vx_6) Y Z O9), k, n)) (g := True ∧ True ∧ True ∧ True ∧ True ∧ True ∧ True ∧ True ∧ vp_in (v1_6) 96 ∧ True) (by with_unfolding_all rfl) ⟨trivial, trivial, trivial, trivial, trivial, trivial, trivial, trivial, g246, trivial⟩ ?_
                      replace h := Option.bind_eq_some_iff.mp h
                      obtain ⟨O_247, hc247, h⟩ := h
                      try dsimp only at h
                      refine am_ev_call (.invokevirtual 117) 90 6 869 [.ref 19, .int v1_6, .int (v3_6 + (1 : Int32)), .int (bl_6 (v1_6).toNatClampNeg)] [] rfl rfl rfl rfl (ok_fm_putAll hc247 D (by omega)) rfl ?_
                      refine am_ev_st 2 (f' := (248, [(6, .int (1 : Int32)), (5, .int (0 : Int32)), (4, .int r7), (0, .ref 19), (1, .int v1_6), (2, .int v2_6), (3, .int v3_6)], [.int v1_6, .ref 19], (W9 N C E F P Q T (gc, gb) U H (br_6, bl_6) O_247 J_6 (vf_6, vu_6, vx_6) Y Z O9), k, n)) (g := True ∧ True ∧ True) (by with_unfolding_all rfl) ⟨trivial, trivial, trivial⟩ ?_
                      replace h := Option.bind_eq_some_iff.mp h
                      obtain ⟨⟨r248, B_248, J_248, V_248⟩, hc248, h⟩ := h
                      try dsimp only at h
                      refine am_ev_call (.invokevirtual 125) 93 2 885 [.ref 19, .int v1_6] [] rfl rfl rfl rfl (ok_fm_take hc248 D (by omega)) rfl ?_
                      refine am_ev_st 1 (f' := am_br ((am_bz r248) ≠ 0) 255 251 [(6, .int (1 : Int32)), (5, .int (0 : Int32)), (4, .int r7), (0, .ref 19), (1, .int v1_6), (2, .int v2_6), (3, .int v3_6)] [] (W9 N C E F P Q T (gc, gb) U H B_248 O_247 J_248 V_248 Y Z O9) k n) (g := True ∧ True) (by with_unfolding_all rfl) ⟨trivial, trivial⟩ ?_
                      by_cases c249 : (am_bz r248) ≠ 0
                      · rw [if_pos c249] at h
                        refine am_ev_pos c249 ?_
                        obtain ⟨vf_248, vu_248, vx_248⟩ := V_248
                        try dsimp only at h
                        refine am_ev_st 7 (f' := (13, [(6, .int (1 : Int32)), (5, .int (0 : Int32)), (4, .int r7), (0, .ref 19), (1, .int v1_6), (2, .int v2_6), (3, .int v3_6)], [], (W9 N C E F P Q T (gc, gb) U H B_248 O_247 J_248 (vf_248, (vu_248 + (1 : Int32)), vx_248) Y Z O9), k, n)) (g := True ∧ True ∧ True ∧ True ∧ True ∧ True ∧ True ∧ True) (by with_unfolding_all rfl) ⟨trivial, trivial, trivial, trivial, trivial, trivial, trivial, trivial⟩ ?_
                        refine am_ev_drop [3, 4, 5] rfl rfl ?_
                        exact ih h
                      · rw [if_neg c249] at h
                        refine am_ev_neg c249 ?_
                        cases h
                        exact am_ev_vret 0 0 0 rfl rfl rfl
                    · rw [if_neg c242] at h
                      refine am_ev_neg c242 ?_
                      refine am_ev_st 5 (f' := (137, [(6, .int (1 : Int32)), (5, .int (0 : Int32)), (4, .int r7), (0, .ref 19), (1, .int v1_6), (2, .int v2_6), (3, .int v3_6)], [.int (v3_6 + (1 : Int32)), .int v1_6, .ref 19], (W9 N C E F P Q T (gc, gb) U H B_6 O_241 J_6 (vf_6, vu_6, vx_6) Y Z O9), k, n)) (g := True ∧ True ∧ True ∧ True ∧ True ∧ True) (by with_unfolding_all rfl) ⟨trivial, trivial, trivial, trivial, trivial, trivial⟩ ?_
                      replace h := Option.bind_eq_some_iff.mp h
                      obtain ⟨r250, hc250, h⟩ := h
                      try dsimp only at h
                      refine am_ev_call (.invokevirtual 77) 82 4 853 [.ref 19, .int v1_6, .int (v3_6 + (1 : Int32))] [] rfl rfl rfl rfl (ok_fm_endOf hc250 D (by omega)) rfl ?_
                      refine am_ev_st 4 (f' := (146, [(7, .int r250), (6, .int (1 : Int32)), (5, .int (0 : Int32)), (4, .int r7), (0, .ref 19), (1, .int v1_6), (2, .int v2_6), (3, .int v3_6)], [.int r250, .int v1_6, .ref 19], (W9 N C E F P Q T (gc, gb) U H B_6 O_241 J_6 (vf_6, vu_6, vx_6) Y Z O9), k, n)) (g := True ∧ True ∧ True ∧ True ∧ True) (by with_unfolding_all rfl) ⟨trivial, trivial, trivial, trivial, trivial⟩ ?_
                      replace h := Option.bind_eq_some_iff.mp h
                      obtain ⟨r251, hc251, h⟩ := h
                      try dsimp only at h
                      refine am_ev_call (.invokevirtual 77) 82 4 853 [.ref 19, .int v1_6, .int r250] [] rfl rfl rfl rfl (ok_fm_endOf hc251 D (by omega)) rfl ?_
                      refine am_ev_st 4 (f' := (155, [(8, .int r251), (7, .int r250), (6, .int (1 : Int32)), (5, .int (0 : Int32)), (4, .int r7), (0, .ref 19), (1, .int v1_6), (2, .int v2_6), (3, .int v3_6)], [.int r251, .int v1_6, .ref 19], (W9 N C E F P Q T (gc, gb) U H B_6 O_241 J_6 (vf_6, vu_6, vx_6) Y Z O9), k, n)) (g := True ∧ True ∧ True ∧ True ∧ True) (by with_unfolding_all rfl) ⟨trivial, trivial, trivial, trivial, trivial⟩ ?_
                      replace h := Option.bind_eq_some_iff.mp h
                      obtain ⟨r252, hc252, h⟩ := h
                      try dsimp only at h
                      refine am_ev_call (.invokevirtual 77) 82 4 853 [.ref 19, .int v1_6, .int r251] [] rfl rfl rfl rfl (ok_fm_endOf hc252 D (by omega)) rfl ?_
                      refine am_ev_st 7 (f' := (166, [(9, .int r252), (8, .int r251), (7, .int r250), (6, .int (1 : Int32)), (5, .int (0 : Int32)), (4, .int r7), (0, .ref 19), (1, .int v1_6), (2, .int v2_6), (3, .int v3_6)], [.int (v3_6 - (1 : Int32)), .int (0 : Int32), .int v1_6, .ref 19], (W9 N C E F P Q T (gc, gb) U H B_6 O_241 J_6 (vf_6, vu_6, vx_6) Y Z O9), k, n)) (g := True ∧ True ∧ True ∧ True ∧ True ∧ True ∧ True ∧ True) (by with_unfolding_all rfl) ⟨trivial, trivial, trivial, trivial, trivial, trivial, trivial, trivial⟩ ?_
                      replace h := Option.bind_eq_some_iff.mp h
                      obtain ⟨O_253, hc253, h⟩ := h
                      try dsimp only at h
                      refine am_ev_call (.invokevirtual 117) 90 6 869 [.ref 19, .int v1_6, .int (0 : Int32), .int (v3_6 - (1 : Int32))] [] rfl rfl rfl rfl (ok_fm_putAll hc253 D (by omega)) rfl ?_
                      refine am_ev_st 7 (f' := (180, [(9, .int r252), (8, .int r251), (7, .int r250), (6, .int (1 : Int32)), (5, .int (0 : Int32)), (4, .int r7), (0, .ref 19), (1, .int v1_6), (2, .int v2_6), (3, .int v3_6)], [.int r252, .int r251, .int v1_6, .int r251, .int r250, .int v1_6, .ref 19], (W9 N C E F P Q T (gc, gb) U H B_6 O_253 J_6 (vf_6, vu_6, vx_6) Y Z O9), k, n)) (g := True ∧ True ∧ True ∧ True ∧ True ∧ True ∧ True ∧ True) (by with_unfolding_all rfl) ⟨trivial, trivial, trivial, trivial, trivial, trivial, trivial, trivial⟩ ?_
                      replace h := Option.bind_eq_some_iff.mp h
                      obtain ⟨⟨O_254, J_254⟩, hc254, h⟩ := h
                      try dsimp only at h
                      refine am_ev_call (.invokevirtual 121) 92 12 877 [.ref 19, .int v1_6, .int r250, .int r251, .int v1_6, .int r251, .int r252] [] rfl rfl rfl rfl (ok_fm_putFor hc254 D (by omega)) rfl ?_
                      obtain ⟨br_6, bl_6⟩ := B_6
                      try dsimp only at h
                      by_cases g255 : (v1_6 < 0 ∨ 96 ≤ (v1_6).toNatClampNeg)
                      · rw [if_pos g255] at h; cases h
                      rw [if_neg g255] at h
                      refine am_ev_st 7 (f' := (193, [(9, .int r252), (8, .int r251), (7, .int r250), (6, .int (1 : Int32)), (5, .int (0 : Int32)), (4, .int r7), (0, .ref 19), (1, .int v1_6), (2, .int v2_6), (3, .int v3_6)], [.int (bl_6 (v1_6).toNatClampNeg), .int r252, .int v1_6, .ref 19], (W9 N C E F P Q T (gc, gb) U H (br_6, bl_6) O_254 J_254 (vf_6, vu_6, vx_6) Y Z O9), k, n)) (g := True ∧ True ∧ True ∧ True ∧ True ∧ True ∧ vp_in (v1_6) 96 ∧ True) (by with_unfolding_all rfl) ⟨trivial, trivial, trivial, trivial, trivial, trivial, g255, trivial⟩ ?_
                      replace h := Option.bind_eq_some_iff.mp h
                      obtain ⟨O_256, hc256, h⟩ := h
                      try dsimp only at h
                      refine am_ev_call (.invokevirtual 117) 90 6 869 [.ref 19, .int v1_6, .int r252, .int (bl_6 (v1_6).toNatClampNeg)] [] rfl rfl rfl rfl (ok_fm_putAll hc256 D (by omega)) rfl ?_
                      refine am_ev_st 3 (f' := (248, [(9, .int r252), (8, .int r251), (7, .int r250), (6, .int (1 : Int32)), (5, .int (0 : Int32)), (4, .int r7), (0, .ref 19), (1, .int v1_6), (2, .int v2_6), (3, .int v3_6)], [.int v1_6, .ref 19], (W9 N C E F P Q T (gc, gb) U H (br_6, bl_6) O_256 J_254 (vf_6, vu_6, vx_6) Y Z O9), k, n)) (g := True ∧ True ∧ True ∧ True) (by with_unfolding_all rfl) ⟨trivial, trivial, trivial, trivial⟩ ?_
                      replace h := Option.bind_eq_some_iff.mp h
                      obtain ⟨⟨r257, B_257, J_257, V_257⟩, hc257, h⟩ := h
                      try dsimp only at h
                      refine am_ev_call (.invokevirtual 125) 93 2 885 [.ref 19, .int v1_6] [] rfl rfl rfl rfl (ok_fm_take hc257 D (by omega)) rfl ?_
                      refine am_ev_st 1 (f' := am_br ((am_bz r257) ≠ 0) 255 251 [(9, .int r252), (8, .int r251), (7, .int r250), (6, .int (1 : Int32)), (5, .int (0 : Int32)), (4, .int r7), (0, .ref 19), (1, .int v1_6), (2, .int v2_6), (3, .int v3_6)] [] (W9 N C E F P Q T (gc, gb) U H B_257 O_256 J_257 V_257 Y Z O9) k n) (g := True ∧ True) (by with_unfolding_all rfl) ⟨trivial, trivial⟩ ?_
                      by_cases c258 : (am_bz r257) ≠ 0
                      · rw [if_pos c258] at h
                        refine am_ev_pos c258 ?_
                        obtain ⟨vf_257, vu_257, vx_257⟩ := V_257
                        try dsimp only at h
                        refine am_ev_st 7 (f' := (13, [(9, .int r252), (8, .int r251), (7, .int r250), (6, .int (1 : Int32)), (5, .int (0 : Int32)), (4, .int r7), (0, .ref 19), (1, .int v1_6), (2, .int v2_6), (3, .int v3_6)], [], (W9 N C E F P Q T (gc, gb) U H B_257 O_256 J_257 (vf_257, (vu_257 + (1 : Int32)), vx_257) Y Z O9), k, n)) (g := True ∧ True ∧ True ∧ True ∧ True ∧ True ∧ True ∧ True) (by with_unfolding_all rfl) ⟨trivial, trivial, trivial, trivial, trivial, trivial, trivial, trivial⟩ ?_
                        refine am_ev_drop [6, 7, 8] rfl rfl ?_
                        exact ih h
                      · rw [if_neg c258] at h
                        refine am_ev_neg c258 ?_
                        cases h
                        exact am_ev_vret 0 0 0 rfl rfl rfl
                  · rw [if_neg c240] at h
                    refine am_ev_neg c240 ?_
                    refine am_ev_st 3 (f' := (122, [(6, .int (1 : Int32)), (5, .int (0 : Int32)), (4, .int r7), (0, .ref 19), (1, .int v1_6), (2, .int v2_6), (3, .int v3_6)], [], (W9 N C E F P Q T (gc, gb) U H B_6 O_6 J_6 (vf_6, vu_6, (3 : Int32)) Y Z O9), k, n)) (g := True ∧ True ∧ True ∧ True) (by with_unfolding_all rfl) ⟨trivial, trivial, trivial, trivial⟩ ?_
                    cases h
                    exact am_ev_vret 0 0 0 rfl rfl rfl
                · rw [if_neg c239] at h
                  refine am_ev_neg c239 ?_
                  cases h
                  exact am_ev_vret 0 0 0 rfl rfl rfl
        · rw [if_neg c134] at h
          refine am_ev_neg c134 ?_
          refine am_ev_st 4 (f' := (68, [(5, .int (1 : Int32)), (4, .int r7), (0, .ref 19), (1, .int v1_6), (2, .int v2_6), (3, .int v3_6)], [.int r7], (W9 N C E F P Q T G U H B_6 O_6 J_6 V_6 Y Z O9), k, n)) (g := True ∧ True ∧ True ∧ True ∧ True) (by with_unfolding_all rfl) ⟨trivial, trivial, trivial, trivial, trivial⟩ ?_
          replace h := Option.bind_eq_some_iff.mp h
          obtain ⟨r259, hc259, h⟩ := h
          try dsimp only at h
          refine am_ev_call (.invokestatic 80) 78 2 824 [.int r7] [] rfl rfl rfl rfl (ok_fm_kindOf hc259 D (by omega)) rfl ?_
          refine am_ev_st 2 (f' := am_br (r259 ≠ (5 : Int32)) 92 72 [(5, .int (1 : Int32)), (4, .int r7), (0, .ref 19), (1, .int v1_6), (2, .int v2_6), (3, .int v3_6)] [] (W9 N C E F P Q T G U H B_6 O_6 J_6 V_6 Y Z O9) k n) (g := True ∧ True ∧ True) (by with_unfolding_all rfl) ⟨trivial, trivial, trivial⟩ ?_
          by_cases c260 : r259 ≠ (5 : Int32)
          · rw [if_pos c260] at h
            refine am_ev_pos c260 ?_
            refine am_ev_st 4 (f' := am_br ((1 : Int32) ≠ 0) 106 97 [(6, .int (0 : Int32)), (5, .int (1 : Int32)), (4, .int r7), (0, .ref 19), (1, .int v1_6), (2, .int v2_6), (3, .int v3_6)] [] (W9 N C E F P Q T G U H B_6 O_6 J_6 V_6 Y Z O9) k n) (g := True ∧ True ∧ True ∧ True ∧ True) (by with_unfolding_all rfl) ⟨trivial, trivial, trivial, trivial, trivial⟩ ?_
            by_cases c261 : (1 : Int32) ≠ 0
            · rw [if_pos c261] at h
              refine am_ev_pos c261 ?_
              obtain ⟨vf_6, vu_6, vx_6⟩ := V_6
              try dsimp only at h
              refine am_ev_st 5 (f' := am_br (vu_6 ≠ vf_6) 123 114 [(6, .int (0 : Int32)), (5, .int (1 : Int32)), (4, .int r7), (0, .ref 19), (1, .int v1_6), (2, .int v2_6), (3, .int v3_6)] [] (W9 N C E F P Q T G U H B_6 O_6 J_6 (vf_6, vu_6, vx_6) Y Z O9) k n) (g := True ∧ True ∧ True ∧ True ∧ True ∧ True) (by with_unfolding_all rfl) ⟨trivial, trivial, trivial, trivial, trivial, trivial⟩ ?_
              by_cases c262 : vu_6 ≠ vf_6
              · rw [if_pos c262] at h
                refine am_ev_pos c262 ?_
                refine am_ev_st 1 (f' := (124, [(6, .int (0 : Int32)), (5, .int (1 : Int32)), (4, .int r7), (0, .ref 19), (1, .int v1_6), (2, .int v2_6), (3, .int v3_6)], [.ref 19], (W9 N C E F P Q T G U H B_6 O_6 J_6 (vf_6, vu_6, vx_6) Y Z O9), k, n)) (g := True ∧ True) (by with_unfolding_all rfl) ⟨trivial, trivial⟩ ?_
                replace h := Option.bind_eq_some_iff.mp h
                obtain ⟨O_263, hc263, h⟩ := h
                try dsimp only at h
                refine am_ev_call (.invokevirtual 114) 88 0 865 [.ref 19] [] rfl rfl rfl rfl (ok_fm_begin hc263 D (by omega)) rfl ?_
                refine am_ev_st 2 (f' := am_br ((1 : Int32) = 0) 199 129 [(6, .int (0 : Int32)), (5, .int (1 : Int32)), (4, .int r7), (0, .ref 19), (1, .int v1_6), (2, .int v2_6), (3, .int v3_6)] [] (W9 N C E F P Q T G U H B_6 O_263 J_6 (vf_6, vu_6, vx_6) Y Z O9) k n) (g := True ∧ True ∧ True) (by with_unfolding_all rfl) ⟨trivial, trivial, trivial⟩ ?_
                by_cases c264 : (1 : Int32) = 0
                · rw [if_pos c264] at h
                  refine am_ev_pos c264 ?_
                  refine am_ev_st 4 (f' := (203, [(6, .int (0 : Int32)), (5, .int (1 : Int32)), (4, .int r7), (0, .ref 19), (1, .int v1_6), (2, .int v2_6), (3, .int v3_6)], [.int v3_6, .int (0 : Int32), .int v1_6, .ref 19], (W9 N C E F P Q T G U H B_6 O_263 J_6 (vf_6, vu_6, vx_6) Y Z O9), k, n)) (g := True ∧ True ∧ True ∧ True ∧ True) (by with_unfolding_all rfl) ⟨trivial, trivial, trivial, trivial, trivial⟩ ?_
                  replace h := Option.bind_eq_some_iff.mp h
                  obtain ⟨O_265, hc265, h⟩ := h
                  try dsimp only at h
                  refine am_ev_call (.invokevirtual 117) 90 6 869 [.ref 19, .int v1_6, .int (0 : Int32), .int v3_6] [] rfl rfl rfl rfl (ok_fm_putAll hc265 D (by omega)) rfl ?_
                  obtain ⟨br_6, bl_6⟩ := B_6
                  try dsimp only at h
                  by_cases g266 : (((80 : Int32) + (r7 / (10 : Int32))) < 0 ∨ 96 ≤ (((80 : Int32) + (r7 / (10 : Int32)))).toNatClampNeg)
                  · rw [if_pos g266] at h; cases h
                  rw [if_neg g266] at h
                  refine am_ev_st 15 (f' := (229, [(6, .int (0 : Int32)), (5, .int (1 : Int32)), (4, .int r7), (0, .ref 19), (1, .int v1_6), (2, .int v2_6), (3, .int v3_6)], [.int (bl_6 (((80 : Int32) + (r7 / (10 : Int32)))).toNatClampNeg), .int (0 : Int32), .int ((80 : Int32) + (r7 / (10 : Int32))), .ref 19], (W9 N C E F P Q T G U H (br_6, bl_6) O_265 J_6 (vf_6, vu_6, vx_6) Y Z O9), k, n)) (g := True ∧ True ∧ True ∧ True ∧ ¬ ((10 : Int32) = 0) ∧ True ∧ True ∧ True ∧ True ∧ True ∧ True ∧ True ∧ ¬ ((10 : Int32) = 0) ∧ True ∧ vp_in (((80 : Int32) + (r7 / (10 : Int32)))) 96 ∧ True) (by with_unfolding_all rfl) ⟨trivial, trivial, trivial, trivial, by decide, trivial, trivial, trivial, trivial, trivial, trivial, trivial, by decide, trivial, g266, trivial⟩ ?_
                  replace h := Option.bind_eq_some_iff.mp h
                  obtain ⟨O_267, hc267, h⟩ := h
                  try dsimp only at h
                  refine am_ev_call (.invokevirtual 117) 90 6 869 [.ref 19, .int ((80 : Int32) + (r7 / (10 : Int32))), .int (0 : Int32), .int (bl_6 (((80 : Int32) + (r7 / (10 : Int32)))).toNatClampNeg)] [] rfl rfl rfl rfl (ok_fm_putAll hc267 D (by omega)) rfl ?_
                  by_cases g268 : (v1_6 < 0 ∨ 96 ≤ (v1_6).toNatClampNeg)
                  · rw [if_pos g268] at h; cases h
                  rw [if_neg g268] at h
                  refine am_ev_st 9 (f' := (243, [(6, .int (0 : Int32)), (5, .int (1 : Int32)), (4, .int r7), (0, .ref 19), (1, .int v1_6), (2, .int v2_6), (3, .int v3_6)], [.int (bl_6 (v1_6).toNatClampNeg), .int (v3_6 + (1 : Int32)), .int v1_6, .ref 19], (W9 N C E F P Q T G U H (br_6, bl_6) O_267 J_6 (vf_6, vu_6, vx_6) Y Z O9), k, n)) (g := True ∧ True ∧ True ∧ True ∧ True ∧ True ∧ True ∧ True ∧ vp_in (v1_6) 96 ∧ True) (by with_unfolding_all rfl) ⟨trivial, trivial, trivial, trivial, trivial, trivial, trivial, trivial, g268, trivial⟩ ?_
                  replace h := Option.bind_eq_some_iff.mp h
                  obtain ⟨O_269, hc269, h⟩ := h
                  try dsimp only at h
                  refine am_ev_call (.invokevirtual 117) 90 6 869 [.ref 19, .int v1_6, .int (v3_6 + (1 : Int32)), .int (bl_6 (v1_6).toNatClampNeg)] [] rfl rfl rfl rfl (ok_fm_putAll hc269 D (by omega)) rfl ?_
                  refine am_ev_st 2 (f' := (248, [(6, .int (0 : Int32)), (5, .int (1 : Int32)), (4, .int r7), (0, .ref 19), (1, .int v1_6), (2, .int v2_6), (3, .int v3_6)], [.int v1_6, .ref 19], (W9 N C E F P Q T G U H (br_6, bl_6) O_269 J_6 (vf_6, vu_6, vx_6) Y Z O9), k, n)) (g := True ∧ True ∧ True) (by with_unfolding_all rfl) ⟨trivial, trivial, trivial⟩ ?_
                  replace h := Option.bind_eq_some_iff.mp h
                  obtain ⟨⟨r270, B_270, J_270, V_270⟩, hc270, h⟩ := h
                  try dsimp only at h
                  refine am_ev_call (.invokevirtual 125) 93 2 885 [.ref 19, .int v1_6] [] rfl rfl rfl rfl (ok_fm_take hc270 D (by omega)) rfl ?_
                  refine am_ev_st 1 (f' := am_br ((am_bz r270) ≠ 0) 255 251 [(6, .int (0 : Int32)), (5, .int (1 : Int32)), (4, .int r7), (0, .ref 19), (1, .int v1_6), (2, .int v2_6), (3, .int v3_6)] [] (W9 N C E F P Q T G U H B_270 O_269 J_270 V_270 Y Z O9) k n) (g := True ∧ True) (by with_unfolding_all rfl) ⟨trivial, trivial⟩ ?_
                  by_cases c271 : (am_bz r270) ≠ 0
                  · rw [if_pos c271] at h
                    refine am_ev_pos c271 ?_
                    obtain ⟨vf_270, vu_270, vx_270⟩ := V_270
                    try dsimp only at h
                    refine am_ev_st 7 (f' := (13, [(6, .int (0 : Int32)), (5, .int (1 : Int32)), (4, .int r7), (0, .ref 19), (1, .int v1_6), (2, .int v2_6), (3, .int v3_6)], [], (W9 N C E F P Q T G U H B_270 O_269 J_270 (vf_270, (vu_270 + (1 : Int32)), vx_270) Y Z O9), k, n)) (g := True ∧ True ∧ True ∧ True ∧ True ∧ True ∧ True ∧ True) (by with_unfolding_all rfl) ⟨trivial, trivial, trivial, trivial, trivial, trivial, trivial, trivial⟩ ?_
                    refine am_ev_drop [3, 4, 5] rfl rfl ?_
                    exact ih h
                  · rw [if_neg c271] at h
                    refine am_ev_neg c271 ?_
                    cases h
                    exact am_ev_vret 0 0 0 rfl rfl rfl
                · rw [if_neg c264] at h
                  refine am_ev_neg c264 ?_
                  refine am_ev_st 5 (f' := (137, [(6, .int (0 : Int32)), (5, .int (1 : Int32)), (4, .int r7), (0, .ref 19), (1, .int v1_6), (2, .int v2_6), (3, .int v3_6)], [.int (v3_6 + (1 : Int32)), .int v1_6, .ref 19], (W9 N C E F P Q T G U H B_6 O_263 J_6 (vf_6, vu_6, vx_6) Y Z O9), k, n)) (g := True ∧ True ∧ True ∧ True ∧ True ∧ True) (by with_unfolding_all rfl) ⟨trivial, trivial, trivial, trivial, trivial, trivial⟩ ?_
                  replace h := Option.bind_eq_some_iff.mp h
                  obtain ⟨r272, hc272, h⟩ := h
                  try dsimp only at h
                  refine am_ev_call (.invokevirtual 77) 82 4 853 [.ref 19, .int v1_6, .int (v3_6 + (1 : Int32))] [] rfl rfl rfl rfl (ok_fm_endOf hc272 D (by omega)) rfl ?_
                  refine am_ev_st 4 (f' := (146, [(7, .int r272), (6, .int (0 : Int32)), (5, .int (1 : Int32)), (4, .int r7), (0, .ref 19), (1, .int v1_6), (2, .int v2_6), (3, .int v3_6)], [.int r272, .int v1_6, .ref 19], (W9 N C E F P Q T G U H B_6 O_263 J_6 (vf_6, vu_6, vx_6) Y Z O9), k, n)) (g := True ∧ True ∧ True ∧ True ∧ True) (by with_unfolding_all rfl) ⟨trivial, trivial, trivial, trivial, trivial⟩ ?_
                  replace h := Option.bind_eq_some_iff.mp h
                  obtain ⟨r273, hc273, h⟩ := h
                  try dsimp only at h
                  refine am_ev_call (.invokevirtual 77) 82 4 853 [.ref 19, .int v1_6, .int r272] [] rfl rfl rfl rfl (ok_fm_endOf hc273 D (by omega)) rfl ?_
                  refine am_ev_st 4 (f' := (155, [(8, .int r273), (7, .int r272), (6, .int (0 : Int32)), (5, .int (1 : Int32)), (4, .int r7), (0, .ref 19), (1, .int v1_6), (2, .int v2_6), (3, .int v3_6)], [.int r273, .int v1_6, .ref 19], (W9 N C E F P Q T G U H B_6 O_263 J_6 (vf_6, vu_6, vx_6) Y Z O9), k, n)) (g := True ∧ True ∧ True ∧ True ∧ True) (by with_unfolding_all rfl) ⟨trivial, trivial, trivial, trivial, trivial⟩ ?_
                  replace h := Option.bind_eq_some_iff.mp h
                  obtain ⟨r274, hc274, h⟩ := h
                  try dsimp only at h
                  refine am_ev_call (.invokevirtual 77) 82 4 853 [.ref 19, .int v1_6, .int r273] [] rfl rfl rfl rfl (ok_fm_endOf hc274 D (by omega)) rfl ?_
                  refine am_ev_st 7 (f' := (166, [(9, .int r274), (8, .int r273), (7, .int r272), (6, .int (0 : Int32)), (5, .int (1 : Int32)), (4, .int r7), (0, .ref 19), (1, .int v1_6), (2, .int v2_6), (3, .int v3_6)], [.int (v3_6 - (1 : Int32)), .int (0 : Int32), .int v1_6, .ref 19], (W9 N C E F P Q T G U H B_6 O_263 J_6 (vf_6, vu_6, vx_6) Y Z O9), k, n)) (g := True ∧ True ∧ True ∧ True ∧ True ∧ True ∧ True ∧ True) (by with_unfolding_all rfl) ⟨trivial, trivial, trivial, trivial, trivial, trivial, trivial, trivial⟩ ?_
                  replace h := Option.bind_eq_some_iff.mp h
                  obtain ⟨O_275, hc275, h⟩ := h
                  try dsimp only at h
                  refine am_ev_call (.invokevirtual 117) 90 6 869 [.ref 19, .int v1_6, .int (0 : Int32), .int (v3_6 - (1 : Int32))] [] rfl rfl rfl rfl (ok_fm_putAll hc275 D (by omega)) rfl ?_
                  refine am_ev_st 7 (f' := (180, [(9, .int r274), (8, .int r273), (7, .int r272), (6, .int (0 : Int32)), (5, .int (1 : Int32)), (4, .int r7), (0, .ref 19), (1, .int v1_6), (2, .int v2_6), (3, .int v3_6)], [.int r274, .int r273, .int v1_6, .int r273, .int r272, .int v1_6, .ref 19], (W9 N C E F P Q T G U H B_6 O_275 J_6 (vf_6, vu_6, vx_6) Y Z O9), k, n)) (g := True ∧ True ∧ True ∧ True ∧ True ∧ True ∧ True ∧ True) (by with_unfolding_all rfl) ⟨trivial, trivial, trivial, trivial, trivial, trivial, trivial, trivial⟩ ?_
                  replace h := Option.bind_eq_some_iff.mp h
                  obtain ⟨⟨O_276, J_276⟩, hc276, h⟩ := h
                  try dsimp only at h
                  refine am_ev_call (.invokevirtual 121) 92 12 877 [.ref 19, .int v1_6, .int r272, .int r273, .int v1_6, .int r273, .int r274] [] rfl rfl rfl rfl (ok_fm_putFor hc276 D (by omega)) rfl ?_
                  obtain ⟨br_6, bl_6⟩ := B_6
                  try dsimp only at h
                  by_cases g277 : (v1_6 < 0 ∨ 96 ≤ (v1_6).toNatClampNeg)
                  · rw [if_pos g277] at h; cases h
                  rw [if_neg g277] at h
                  refine am_ev_st 7 (f' := (193, [(9, .int r274), (8, .int r273), (7, .int r272), (6, .int (0 : Int32)), (5, .int (1 : Int32)), (4, .int r7), (0, .ref 19), (1, .int v1_6), (2, .int v2_6), (3, .int v3_6)], [.int (bl_6 (v1_6).toNatClampNeg), .int r274, .int v1_6, .ref 19], (W9 N C E F P Q T G U H (br_6, bl_6) O_276 J_276 (vf_6, vu_6, vx_6) Y Z O9), k, n)) (g := True ∧ True ∧ True ∧ True ∧ True ∧ True ∧ vp_in (v1_6) 96 ∧ True) (by with_unfolding_all rfl) ⟨trivial, trivial, trivial, trivial, trivial, trivial, g277, trivial⟩ ?_
                  replace h := Option.bind_eq_some_iff.mp h
                  obtain ⟨O_278, hc278, h⟩ := h
                  try dsimp only at h
                  refine am_ev_call (.invokevirtual 117) 90 6 869 [.ref 19, .int v1_6, .int r274, .int (bl_6 (v1_6).toNatClampNeg)] [] rfl rfl rfl rfl (ok_fm_putAll hc278 D (by omega)) rfl ?_
                  refine am_ev_st 3 (f' := (248, [(9, .int r274), (8, .int r273), (7, .int r272), (6, .int (0 : Int32)), (5, .int (1 : Int32)), (4, .int r7), (0, .ref 19), (1, .int v1_6), (2, .int v2_6), (3, .int v3_6)], [.int v1_6, .ref 19], (W9 N C E F P Q T G U H (br_6, bl_6) O_278 J_276 (vf_6, vu_6, vx_6) Y Z O9), k, n)) (g := True ∧ True ∧ True ∧ True) (by with_unfolding_all rfl) ⟨trivial, trivial, trivial, trivial⟩ ?_
                  replace h := Option.bind_eq_some_iff.mp h
                  obtain ⟨⟨r279, B_279, J_279, V_279⟩, hc279, h⟩ := h
                  try dsimp only at h
                  refine am_ev_call (.invokevirtual 125) 93 2 885 [.ref 19, .int v1_6] [] rfl rfl rfl rfl (ok_fm_take hc279 D (by omega)) rfl ?_
                  refine am_ev_st 1 (f' := am_br ((am_bz r279) ≠ 0) 255 251 [(9, .int r274), (8, .int r273), (7, .int r272), (6, .int (0 : Int32)), (5, .int (1 : Int32)), (4, .int r7), (0, .ref 19), (1, .int v1_6), (2, .int v2_6), (3, .int v3_6)] [] (W9 N C E F P Q T G U H B_279 O_278 J_279 V_279 Y Z O9) k n) (g := True ∧ True) (by with_unfolding_all rfl) ⟨trivial, trivial⟩ ?_
                  by_cases c280 : (am_bz r279) ≠ 0
                  · rw [if_pos c280] at h
                    refine am_ev_pos c280 ?_
                    obtain ⟨vf_279, vu_279, vx_279⟩ := V_279
                    try dsimp only at h
                    refine am_ev_st 7 (f' := (13, [(9, .int r274), (8, .int r273), (7, .int r272), (6, .int (0 : Int32)), (5, .int (1 : Int32)), (4, .int r7), (0, .ref 19), (1, .int v1_6), (2, .int v2_6), (3, .int v3_6)], [], (W9 N C E F P Q T G U H B_279 O_278 J_279 (vf_279, (vu_279 + (1 : Int32)), vx_279) Y Z O9), k, n)) (g := True ∧ True ∧ True ∧ True ∧ True ∧ True ∧ True ∧ True) (by with_unfolding_all rfl) ⟨trivial, trivial, trivial, trivial, trivial, trivial, trivial, trivial⟩ ?_
                    refine am_ev_drop [6, 7, 8] rfl rfl ?_
                    exact ih h
                  · rw [if_neg c280] at h
                    refine am_ev_neg c280 ?_
                    cases h
                    exact am_ev_vret 0 0 0 rfl rfl rfl
              · rw [if_neg c262] at h
                refine am_ev_neg c262 ?_
                refine am_ev_st 3 (f' := (122, [(6, .int (0 : Int32)), (5, .int (1 : Int32)), (4, .int r7), (0, .ref 19), (1, .int v1_6), (2, .int v2_6), (3, .int v3_6)], [], (W9 N C E F P Q T G U H B_6 O_6 J_6 (vf_6, vu_6, (3 : Int32)) Y Z O9), k, n)) (g := True ∧ True ∧ True ∧ True) (by with_unfolding_all rfl) ⟨trivial, trivial, trivial, trivial⟩ ?_
                cases h
                exact am_ev_vret 0 0 0 rfl rfl rfl
            · rw [if_neg c261] at h
              refine am_ev_neg c261 ?_
              refine am_ev_st 2 (f' := am_br ((0 : Int32) ≠ 0) 106 102 [(6, .int (0 : Int32)), (5, .int (1 : Int32)), (4, .int r7), (0, .ref 19), (1, .int v1_6), (2, .int v2_6), (3, .int v3_6)] [] (W9 N C E F P Q T G U H B_6 O_6 J_6 V_6 Y Z O9) k n) (g := True ∧ True ∧ True) (by with_unfolding_all rfl) ⟨trivial, trivial, trivial⟩ ?_
              by_cases c281 : (0 : Int32) ≠ 0
              · rw [if_pos c281] at h
                refine am_ev_pos c281 ?_
                obtain ⟨vf_6, vu_6, vx_6⟩ := V_6
                try dsimp only at h
                refine am_ev_st 5 (f' := am_br (vu_6 ≠ vf_6) 123 114 [(6, .int (0 : Int32)), (5, .int (1 : Int32)), (4, .int r7), (0, .ref 19), (1, .int v1_6), (2, .int v2_6), (3, .int v3_6)] [] (W9 N C E F P Q T G U H B_6 O_6 J_6 (vf_6, vu_6, vx_6) Y Z O9) k n) (g := True ∧ True ∧ True ∧ True ∧ True ∧ True) (by with_unfolding_all rfl) ⟨trivial, trivial, trivial, trivial, trivial, trivial⟩ ?_
                by_cases c282 : vu_6 ≠ vf_6
                · rw [if_pos c282] at h
                  refine am_ev_pos c282 ?_
                  refine am_ev_st 1 (f' := (124, [(6, .int (0 : Int32)), (5, .int (1 : Int32)), (4, .int r7), (0, .ref 19), (1, .int v1_6), (2, .int v2_6), (3, .int v3_6)], [.ref 19], (W9 N C E F P Q T G U H B_6 O_6 J_6 (vf_6, vu_6, vx_6) Y Z O9), k, n)) (g := True ∧ True) (by with_unfolding_all rfl) ⟨trivial, trivial⟩ ?_
                  replace h := Option.bind_eq_some_iff.mp h
                  obtain ⟨O_283, hc283, h⟩ := h
                  try dsimp only at h
                  refine am_ev_call (.invokevirtual 114) 88 0 865 [.ref 19] [] rfl rfl rfl rfl (ok_fm_begin hc283 D (by omega)) rfl ?_
                  refine am_ev_st 2 (f' := am_br ((1 : Int32) = 0) 199 129 [(6, .int (0 : Int32)), (5, .int (1 : Int32)), (4, .int r7), (0, .ref 19), (1, .int v1_6), (2, .int v2_6), (3, .int v3_6)] [] (W9 N C E F P Q T G U H B_6 O_283 J_6 (vf_6, vu_6, vx_6) Y Z O9) k n) (g := True ∧ True ∧ True) (by with_unfolding_all rfl) ⟨trivial, trivial, trivial⟩ ?_
                  by_cases c284 : (1 : Int32) = 0
                  · rw [if_pos c284] at h
                    refine am_ev_pos c284 ?_
                    refine am_ev_st 4 (f' := (203, [(6, .int (0 : Int32)), (5, .int (1 : Int32)), (4, .int r7), (0, .ref 19), (1, .int v1_6), (2, .int v2_6), (3, .int v3_6)], [.int v3_6, .int (0 : Int32), .int v1_6, .ref 19], (W9 N C E F P Q T G U H B_6 O_283 J_6 (vf_6, vu_6, vx_6) Y Z O9), k, n)) (g := True ∧ True ∧ True ∧ True ∧ True) (by with_unfolding_all rfl) ⟨trivial, trivial, trivial, trivial, trivial⟩ ?_
                    replace h := Option.bind_eq_some_iff.mp h
                    obtain ⟨O_285, hc285, h⟩ := h
                    try dsimp only at h
                    refine am_ev_call (.invokevirtual 117) 90 6 869 [.ref 19, .int v1_6, .int (0 : Int32), .int v3_6] [] rfl rfl rfl rfl (ok_fm_putAll hc285 D (by omega)) rfl ?_
                    obtain ⟨br_6, bl_6⟩ := B_6
                    try dsimp only at h
                    by_cases g286 : (((80 : Int32) + (r7 / (10 : Int32))) < 0 ∨ 96 ≤ (((80 : Int32) + (r7 / (10 : Int32)))).toNatClampNeg)
                    · rw [if_pos g286] at h; cases h
                    rw [if_neg g286] at h
                    refine am_ev_st 15 (f' := (229, [(6, .int (0 : Int32)), (5, .int (1 : Int32)), (4, .int r7), (0, .ref 19), (1, .int v1_6), (2, .int v2_6), (3, .int v3_6)], [.int (bl_6 (((80 : Int32) + (r7 / (10 : Int32)))).toNatClampNeg), .int (0 : Int32), .int ((80 : Int32) + (r7 / (10 : Int32))), .ref 19], (W9 N C E F P Q T G U H (br_6, bl_6) O_285 J_6 (vf_6, vu_6, vx_6) Y Z O9), k, n)) (g := True ∧ True ∧ True ∧ True ∧ ¬ ((10 : Int32) = 0) ∧ True ∧ True ∧ True ∧ True ∧ True ∧ True ∧ True ∧ ¬ ((10 : Int32) = 0) ∧ True ∧ vp_in (((80 : Int32) + (r7 / (10 : Int32)))) 96 ∧ True) (by with_unfolding_all rfl) ⟨trivial, trivial, trivial, trivial, by decide, trivial, trivial, trivial, trivial, trivial, trivial, trivial, by decide, trivial, g286, trivial⟩ ?_
                    replace h := Option.bind_eq_some_iff.mp h
                    obtain ⟨O_287, hc287, h⟩ := h
                    try dsimp only at h
                    refine am_ev_call (.invokevirtual 117) 90 6 869 [.ref 19, .int ((80 : Int32) + (r7 / (10 : Int32))), .int (0 : Int32), .int (bl_6 (((80 : Int32) + (r7 / (10 : Int32)))).toNatClampNeg)] [] rfl rfl rfl rfl (ok_fm_putAll hc287 D (by omega)) rfl ?_
                    by_cases g288 : (v1_6 < 0 ∨ 96 ≤ (v1_6).toNatClampNeg)
                    · rw [if_pos g288] at h; cases h
                    rw [if_neg g288] at h
                    refine am_ev_st 9 (f' := (243, [(6, .int (0 : Int32)), (5, .int (1 : Int32)), (4, .int r7), (0, .ref 19), (1, .int v1_6), (2, .int v2_6), (3, .int v3_6)], [.int (bl_6 (v1_6).toNatClampNeg), .int (v3_6 + (1 : Int32)), .int v1_6, .ref 19], (W9 N C E F P Q T G U H (br_6, bl_6) O_287 J_6 (vf_6, vu_6, vx_6) Y Z O9), k, n)) (g := True ∧ True ∧ True ∧ True ∧ True ∧ True ∧ True ∧ True ∧ vp_in (v1_6) 96 ∧ True) (by with_unfolding_all rfl) ⟨trivial, trivial, trivial, trivial, trivial, trivial, trivial, trivial, g288, trivial⟩ ?_
                    replace h := Option.bind_eq_some_iff.mp h
                    obtain ⟨O_289, hc289, h⟩ := h
                    try dsimp only at h
                    refine am_ev_call (.invokevirtual 117) 90 6 869 [.ref 19, .int v1_6, .int (v3_6 + (1 : Int32)), .int (bl_6 (v1_6).toNatClampNeg)] [] rfl rfl rfl rfl (ok_fm_putAll hc289 D (by omega)) rfl ?_
                    refine am_ev_st 2 (f' := (248, [(6, .int (0 : Int32)), (5, .int (1 : Int32)), (4, .int r7), (0, .ref 19), (1, .int v1_6), (2, .int v2_6), (3, .int v3_6)], [.int v1_6, .ref 19], (W9 N C E F P Q T G U H (br_6, bl_6) O_289 J_6 (vf_6, vu_6, vx_6) Y Z O9), k, n)) (g := True ∧ True ∧ True) (by with_unfolding_all rfl) ⟨trivial, trivial, trivial⟩ ?_
                    replace h := Option.bind_eq_some_iff.mp h
                    obtain ⟨⟨r290, B_290, J_290, V_290⟩, hc290, h⟩ := h
                    try dsimp only at h
                    refine am_ev_call (.invokevirtual 125) 93 2 885 [.ref 19, .int v1_6] [] rfl rfl rfl rfl (ok_fm_take hc290 D (by omega)) rfl ?_
                    refine am_ev_st 1 (f' := am_br ((am_bz r290) ≠ 0) 255 251 [(6, .int (0 : Int32)), (5, .int (1 : Int32)), (4, .int r7), (0, .ref 19), (1, .int v1_6), (2, .int v2_6), (3, .int v3_6)] [] (W9 N C E F P Q T G U H B_290 O_289 J_290 V_290 Y Z O9) k n) (g := True ∧ True) (by with_unfolding_all rfl) ⟨trivial, trivial⟩ ?_
                    by_cases c291 : (am_bz r290) ≠ 0
                    · rw [if_pos c291] at h
                      refine am_ev_pos c291 ?_
                      obtain ⟨vf_290, vu_290, vx_290⟩ := V_290
                      try dsimp only at h
                      refine am_ev_st 7 (f' := (13, [(6, .int (0 : Int32)), (5, .int (1 : Int32)), (4, .int r7), (0, .ref 19), (1, .int v1_6), (2, .int v2_6), (3, .int v3_6)], [], (W9 N C E F P Q T G U H B_290 O_289 J_290 (vf_290, (vu_290 + (1 : Int32)), vx_290) Y Z O9), k, n)) (g := True ∧ True ∧ True ∧ True ∧ True ∧ True ∧ True ∧ True) (by with_unfolding_all rfl) ⟨trivial, trivial, trivial, trivial, trivial, trivial, trivial, trivial⟩ ?_
                      refine am_ev_drop [3, 4, 5] rfl rfl ?_
                      exact ih h
                    · rw [if_neg c291] at h
                      refine am_ev_neg c291 ?_
                      cases h
                      exact am_ev_vret 0 0 0 rfl rfl rfl
                  · rw [if_neg c284] at h
                    refine am_ev_neg c284 ?_
                    refine am_ev_st 5 (f' := (137, [(6, .int (0 : Int32)), (5, .int (1 : Int32)), (4, .int r7), (0, .ref 19), (1, .int v1_6), (2, .int v2_6), (3, .int v3_6)], [.int (v3_6 + (1 : Int32)), .int v1_6, .ref 19], (W9 N C E F P Q T G U H B_6 O_283 J_6 (vf_6, vu_6, vx_6) Y Z O9), k, n)) (g := True ∧ True ∧ True ∧ True ∧ True ∧ True) (by with_unfolding_all rfl) ⟨trivial, trivial, trivial, trivial, trivial, trivial⟩ ?_
                    replace h := Option.bind_eq_some_iff.mp h
                    obtain ⟨r292, hc292, h⟩ := h
                    try dsimp only at h
                    refine am_ev_call (.invokevirtual 77) 82 4 853 [.ref 19, .int v1_6, .int (v3_6 + (1 : Int32))] [] rfl rfl rfl rfl (ok_fm_endOf hc292 D (by omega)) rfl ?_
                    refine am_ev_st 4 (f' := (146, [(7, .int r292), (6, .int (0 : Int32)), (5, .int (1 : Int32)), (4, .int r7), (0, .ref 19), (1, .int v1_6), (2, .int v2_6), (3, .int v3_6)], [.int r292, .int v1_6, .ref 19], (W9 N C E F P Q T G U H B_6 O_283 J_6 (vf_6, vu_6, vx_6) Y Z O9), k, n)) (g := True ∧ True ∧ True ∧ True ∧ True) (by with_unfolding_all rfl) ⟨trivial, trivial, trivial, trivial, trivial⟩ ?_
                    replace h := Option.bind_eq_some_iff.mp h
                    obtain ⟨r293, hc293, h⟩ := h
                    try dsimp only at h
                    refine am_ev_call (.invokevirtual 77) 82 4 853 [.ref 19, .int v1_6, .int r292] [] rfl rfl rfl rfl (ok_fm_endOf hc293 D (by omega)) rfl ?_
                    refine am_ev_st 4 (f' := (155, [(8, .int r293), (7, .int r292), (6, .int (0 : Int32)), (5, .int (1 : Int32)), (4, .int r7), (0, .ref 19), (1, .int v1_6), (2, .int v2_6), (3, .int v3_6)], [.int r293, .int v1_6, .ref 19], (W9 N C E F P Q T G U H B_6 O_283 J_6 (vf_6, vu_6, vx_6) Y Z O9), k, n)) (g := True ∧ True ∧ True ∧ True ∧ True) (by with_unfolding_all rfl) ⟨trivial, trivial, trivial, trivial, trivial⟩ ?_
                    replace h := Option.bind_eq_some_iff.mp h
                    obtain ⟨r294, hc294, h⟩ := h
                    try dsimp only at h
                    refine am_ev_call (.invokevirtual 77) 82 4 853 [.ref 19, .int v1_6, .int r293] [] rfl rfl rfl rfl (ok_fm_endOf hc294 D (by omega)) rfl ?_
                    refine am_ev_st 7 (f' := (166, [(9, .int r294), (8, .int r293), (7, .int r292), (6, .int (0 : Int32)), (5, .int (1 : Int32)), (4, .int r7), (0, .ref 19), (1, .int v1_6), (2, .int v2_6), (3, .int v3_6)], [.int (v3_6 - (1 : Int32)), .int (0 : Int32), .int v1_6, .ref 19], (W9 N C E F P Q T G U H B_6 O_283 J_6 (vf_6, vu_6, vx_6) Y Z O9), k, n)) (g := True ∧ True ∧ True ∧ True ∧ True ∧ True ∧ True ∧ True) (by with_unfolding_all rfl) ⟨trivial, trivial, trivial, trivial, trivial, trivial, trivial, trivial⟩ ?_
                    replace h := Option.bind_eq_some_iff.mp h
                    obtain ⟨O_295, hc295, h⟩ := h
                    try dsimp only at h
                    refine am_ev_call (.invokevirtual 117) 90 6 869 [.ref 19, .int v1_6, .int (0 : Int32), .int (v3_6 - (1 : Int32))] [] rfl rfl rfl rfl (ok_fm_putAll hc295 D (by omega)) rfl ?_
                    refine am_ev_st 7 (f' := (180, [(9, .int r294), (8, .int r293), (7, .int r292), (6, .int (0 : Int32)), (5, .int (1 : Int32)), (4, .int r7), (0, .ref 19), (1, .int v1_6), (2, .int v2_6), (3, .int v3_6)], [.int r294, .int r293, .int v1_6, .int r293, .int r292, .int v1_6, .ref 19], (W9 N C E F P Q T G U H B_6 O_295 J_6 (vf_6, vu_6, vx_6) Y Z O9), k, n)) (g := True ∧ True ∧ True ∧ True ∧ True ∧ True ∧ True ∧ True) (by with_unfolding_all rfl) ⟨trivial, trivial, trivial, trivial, trivial, trivial, trivial, trivial⟩ ?_
                    replace h := Option.bind_eq_some_iff.mp h
                    obtain ⟨⟨O_296, J_296⟩, hc296, h⟩ := h
                    try dsimp only at h
                    refine am_ev_call (.invokevirtual 121) 92 12 877 [.ref 19, .int v1_6, .int r292, .int r293, .int v1_6, .int r293, .int r294] [] rfl rfl rfl rfl (ok_fm_putFor hc296 D (by omega)) rfl ?_
                    obtain ⟨br_6, bl_6⟩ := B_6
                    try dsimp only at h
                    by_cases g297 : (v1_6 < 0 ∨ 96 ≤ (v1_6).toNatClampNeg)
                    · rw [if_pos g297] at h; cases h
                    rw [if_neg g297] at h
                    refine am_ev_st 7 (f' := (193, [(9, .int r294), (8, .int r293), (7, .int r292), (6, .int (0 : Int32)), (5, .int (1 : Int32)), (4, .int r7), (0, .ref 19), (1, .int v1_6), (2, .int v2_6), (3, .int v3_6)], [.int (bl_6 (v1_6).toNatClampNeg), .int r294, .int v1_6, .ref 19], (W9 N C E F P Q T G U H (br_6, bl_6) O_296 J_296 (vf_6, vu_6, vx_6) Y Z O9), k, n)) (g := True ∧ True ∧ True ∧ True ∧ True ∧ True ∧ vp_in (v1_6) 96 ∧ True) (by with_unfolding_all rfl) ⟨trivial, trivial, trivial, trivial, trivial, trivial, g297, trivial⟩ ?_
                    replace h := Option.bind_eq_some_iff.mp h
                    obtain ⟨O_298, hc298, h⟩ := h
                    try dsimp only at h
                    refine am_ev_call (.invokevirtual 117) 90 6 869 [.ref 19, .int v1_6, .int r294, .int (bl_6 (v1_6).toNatClampNeg)] [] rfl rfl rfl rfl (ok_fm_putAll hc298 D (by omega)) rfl ?_
                    refine am_ev_st 3 (f' := (248, [(9, .int r294), (8, .int r293), (7, .int r292), (6, .int (0 : Int32)), (5, .int (1 : Int32)), (4, .int r7), (0, .ref 19), (1, .int v1_6), (2, .int v2_6), (3, .int v3_6)], [.int v1_6, .ref 19], (W9 N C E F P Q T G U H (br_6, bl_6) O_298 J_296 (vf_6, vu_6, vx_6) Y Z O9), k, n)) (g := True ∧ True ∧ True ∧ True) (by with_unfolding_all rfl) ⟨trivial, trivial, trivial, trivial⟩ ?_
                    replace h := Option.bind_eq_some_iff.mp h
                    obtain ⟨⟨r299, B_299, J_299, V_299⟩, hc299, h⟩ := h
                    try dsimp only at h
                    refine am_ev_call (.invokevirtual 125) 93 2 885 [.ref 19, .int v1_6] [] rfl rfl rfl rfl (ok_fm_take hc299 D (by omega)) rfl ?_
                    refine am_ev_st 1 (f' := am_br ((am_bz r299) ≠ 0) 255 251 [(9, .int r294), (8, .int r293), (7, .int r292), (6, .int (0 : Int32)), (5, .int (1 : Int32)), (4, .int r7), (0, .ref 19), (1, .int v1_6), (2, .int v2_6), (3, .int v3_6)] [] (W9 N C E F P Q T G U H B_299 O_298 J_299 V_299 Y Z O9) k n) (g := True ∧ True) (by with_unfolding_all rfl) ⟨trivial, trivial⟩ ?_
                    by_cases c300 : (am_bz r299) ≠ 0
                    · rw [if_pos c300] at h
                      refine am_ev_pos c300 ?_
                      obtain ⟨vf_299, vu_299, vx_299⟩ := V_299
                      try dsimp only at h
                      refine am_ev_st 7 (f' := (13, [(9, .int r294), (8, .int r293), (7, .int r292), (6, .int (0 : Int32)), (5, .int (1 : Int32)), (4, .int r7), (0, .ref 19), (1, .int v1_6), (2, .int v2_6), (3, .int v3_6)], [], (W9 N C E F P Q T G U H B_299 O_298 J_299 (vf_299, (vu_299 + (1 : Int32)), vx_299) Y Z O9), k, n)) (g := True ∧ True ∧ True ∧ True ∧ True ∧ True ∧ True ∧ True) (by with_unfolding_all rfl) ⟨trivial, trivial, trivial, trivial, trivial, trivial, trivial, trivial⟩ ?_
                      refine am_ev_drop [6, 7, 8] rfl rfl ?_
                      exact ih h
                    · rw [if_neg c300] at h
                      refine am_ev_neg c300 ?_
                      cases h
                      exact am_ev_vret 0 0 0 rfl rfl rfl
                · rw [if_neg c282] at h
                  refine am_ev_neg c282 ?_
                  refine am_ev_st 3 (f' := (122, [(6, .int (0 : Int32)), (5, .int (1 : Int32)), (4, .int r7), (0, .ref 19), (1, .int v1_6), (2, .int v2_6), (3, .int v3_6)], [], (W9 N C E F P Q T G U H B_6 O_6 J_6 (vf_6, vu_6, (3 : Int32)) Y Z O9), k, n)) (g := True ∧ True ∧ True ∧ True) (by with_unfolding_all rfl) ⟨trivial, trivial, trivial, trivial⟩ ?_
                  cases h
                  exact am_ev_vret 0 0 0 rfl rfl rfl
              · rw [if_neg c281] at h
                refine am_ev_neg c281 ?_
                cases h
                exact am_ev_vret 0 0 0 rfl rfl rfl
          · rw [if_neg c260] at h
            refine am_ev_neg c260 ?_
            obtain ⟨gc, gb⟩ := G
            try dsimp only at h
            by_cases g301 : ((r7 / (10 : Int32)) < 0 ∨ 16 ≤ ((r7 / (10 : Int32))).toNatClampNeg)
            · rw [if_pos g301] at h; cases h
            rw [if_neg g301] at h
            refine am_ev_st 7 (f' := am_br ((gb ((r7 / (10 : Int32))).toNatClampNeg) = 0) 92 85 [(5, .int (1 : Int32)), (4, .int r7), (0, .ref 19), (1, .int v1_6), (2, .int v2_6), (3, .int v3_6)] [] (W9 N C E F P Q T (gc, gb) U H B_6 O_6 J_6 V_6 Y Z O9) k n) (g := True ∧ True ∧ True ∧ True ∧ ¬ ((10 : Int32) = 0) ∧ vp_in ((r7 / (10 : Int32))) 16 ∧ True ∧ True) (by with_unfolding_all rfl) ⟨trivial, trivial, trivial, trivial, by decide, g301, trivial, trivial⟩ ?_
            by_cases c302 : (gb ((r7 / (10 : Int32))).toNatClampNeg) = 0
            · rw [if_pos c302] at h
              refine am_ev_pos c302 ?_
              refine am_ev_st 4 (f' := am_br ((1 : Int32) ≠ 0) 106 97 [(6, .int (0 : Int32)), (5, .int (1 : Int32)), (4, .int r7), (0, .ref 19), (1, .int v1_6), (2, .int v2_6), (3, .int v3_6)] [] (W9 N C E F P Q T (gc, gb) U H B_6 O_6 J_6 V_6 Y Z O9) k n) (g := True ∧ True ∧ True ∧ True ∧ True) (by with_unfolding_all rfl) ⟨trivial, trivial, trivial, trivial, trivial⟩ ?_
              by_cases c303 : (1 : Int32) ≠ 0
              · rw [if_pos c303] at h
                refine am_ev_pos c303 ?_
                obtain ⟨vf_6, vu_6, vx_6⟩ := V_6
                try dsimp only at h
                refine am_ev_st 5 (f' := am_br (vu_6 ≠ vf_6) 123 114 [(6, .int (0 : Int32)), (5, .int (1 : Int32)), (4, .int r7), (0, .ref 19), (1, .int v1_6), (2, .int v2_6), (3, .int v3_6)] [] (W9 N C E F P Q T (gc, gb) U H B_6 O_6 J_6 (vf_6, vu_6, vx_6) Y Z O9) k n) (g := True ∧ True ∧ True ∧ True ∧ True ∧ True) (by with_unfolding_all rfl) ⟨trivial, trivial, trivial, trivial, trivial, trivial⟩ ?_
                by_cases c304 : vu_6 ≠ vf_6
                · rw [if_pos c304] at h
                  refine am_ev_pos c304 ?_
                  refine am_ev_st 1 (f' := (124, [(6, .int (0 : Int32)), (5, .int (1 : Int32)), (4, .int r7), (0, .ref 19), (1, .int v1_6), (2, .int v2_6), (3, .int v3_6)], [.ref 19], (W9 N C E F P Q T (gc, gb) U H B_6 O_6 J_6 (vf_6, vu_6, vx_6) Y Z O9), k, n)) (g := True ∧ True) (by with_unfolding_all rfl) ⟨trivial, trivial⟩ ?_
                  replace h := Option.bind_eq_some_iff.mp h
                  obtain ⟨O_305, hc305, h⟩ := h
                  try dsimp only at h
                  refine am_ev_call (.invokevirtual 114) 88 0 865 [.ref 19] [] rfl rfl rfl rfl (ok_fm_begin hc305 D (by omega)) rfl ?_
                  refine am_ev_st 2 (f' := am_br ((1 : Int32) = 0) 199 129 [(6, .int (0 : Int32)), (5, .int (1 : Int32)), (4, .int r7), (0, .ref 19), (1, .int v1_6), (2, .int v2_6), (3, .int v3_6)] [] (W9 N C E F P Q T (gc, gb) U H B_6 O_305 J_6 (vf_6, vu_6, vx_6) Y Z O9) k n) (g := True ∧ True ∧ True) (by with_unfolding_all rfl) ⟨trivial, trivial, trivial⟩ ?_
                  by_cases c306 : (1 : Int32) = 0
                  · rw [if_pos c306] at h
                    refine am_ev_pos c306 ?_
                    refine am_ev_st 4 (f' := (203, [(6, .int (0 : Int32)), (5, .int (1 : Int32)), (4, .int r7), (0, .ref 19), (1, .int v1_6), (2, .int v2_6), (3, .int v3_6)], [.int v3_6, .int (0 : Int32), .int v1_6, .ref 19], (W9 N C E F P Q T (gc, gb) U H B_6 O_305 J_6 (vf_6, vu_6, vx_6) Y Z O9), k, n)) (g := True ∧ True ∧ True ∧ True ∧ True) (by with_unfolding_all rfl) ⟨trivial, trivial, trivial, trivial, trivial⟩ ?_
                    replace h := Option.bind_eq_some_iff.mp h
                    obtain ⟨O_307, hc307, h⟩ := h
                    try dsimp only at h
                    refine am_ev_call (.invokevirtual 117) 90 6 869 [.ref 19, .int v1_6, .int (0 : Int32), .int v3_6] [] rfl rfl rfl rfl (ok_fm_putAll hc307 D (by omega)) rfl ?_
                    obtain ⟨br_6, bl_6⟩ := B_6
                    try dsimp only at h
                    by_cases g308 : (((80 : Int32) + (r7 / (10 : Int32))) < 0 ∨ 96 ≤ (((80 : Int32) + (r7 / (10 : Int32)))).toNatClampNeg)
                    · rw [if_pos g308] at h; cases h
                    rw [if_neg g308] at h
                    refine am_ev_st 15 (f' := (229, [(6, .int (0 : Int32)), (5, .int (1 : Int32)), (4, .int r7), (0, .ref 19), (1, .int v1_6), (2, .int v2_6), (3, .int v3_6)], [.int (bl_6 (((80 : Int32) + (r7 / (10 : Int32)))).toNatClampNeg), .int (0 : Int32), .int ((80 : Int32) + (r7 / (10 : Int32))), .ref 19], (W9 N C E F P Q T (gc, gb) U H (br_6, bl_6) O_307 J_6 (vf_6, vu_6, vx_6) Y Z O9), k, n)) (g := True ∧ True ∧ True ∧ True ∧ ¬ ((10 : Int32) = 0) ∧ True ∧ True ∧ True ∧ True ∧ True ∧ True ∧ True ∧ ¬ ((10 : Int32) = 0) ∧ True ∧ vp_in (((80 : Int32) + (r7 / (10 : Int32)))) 96 ∧ True) (by with_unfolding_all rfl) ⟨trivial, trivial, trivial, trivial, by decide, trivial, trivial, trivial, trivial, trivial, trivial, trivial, by decide, trivial, g308, trivial⟩ ?_
                    replace h := Option.bind_eq_some_iff.mp h
                    obtain ⟨O_309, hc309, h⟩ := h
                    try dsimp only at h
                    refine am_ev_call (.invokevirtual 117) 90 6 869 [.ref 19, .int ((80 : Int32) + (r7 / (10 : Int32))), .int (0 : Int32), .int (bl_6 (((80 : Int32) + (r7 / (10 : Int32)))).toNatClampNeg)] [] rfl rfl rfl rfl (ok_fm_putAll hc309 D (by omega)) rfl ?_
                    by_cases g310 : (v1_6 < 0 ∨ 96 ≤ (v1_6).toNatClampNeg)
                    · rw [if_pos g310] at h; cases h
                    rw [if_neg g310] at h
                    refine am_ev_st 9 (f' := (243, [(6, .int (0 : Int32)), (5, .int (1 : Int32)), (4, .int r7), (0, .ref 19), (1, .int v1_6), (2, .int v2_6), (3, .int v3_6)], [.int (bl_6 (v1_6).toNatClampNeg), .int (v3_6 + (1 : Int32)), .int v1_6, .ref 19], (W9 N C E F P Q T (gc, gb) U H (br_6, bl_6) O_309 J_6 (vf_6, vu_6, vx_6) Y Z O9), k, n)) (g := True ∧ True ∧ True ∧ True ∧ True ∧ True ∧ True ∧ True ∧ vp_in (v1_6) 96 ∧ True) (by with_unfolding_all rfl) ⟨trivial, trivial, trivial, trivial, trivial, trivial, trivial, trivial, g310, trivial⟩ ?_
                    replace h := Option.bind_eq_some_iff.mp h
                    obtain ⟨O_311, hc311, h⟩ := h
                    try dsimp only at h
                    refine am_ev_call (.invokevirtual 117) 90 6 869 [.ref 19, .int v1_6, .int (v3_6 + (1 : Int32)), .int (bl_6 (v1_6).toNatClampNeg)] [] rfl rfl rfl rfl (ok_fm_putAll hc311 D (by omega)) rfl ?_
                    refine am_ev_st 2 (f' := (248, [(6, .int (0 : Int32)), (5, .int (1 : Int32)), (4, .int r7), (0, .ref 19), (1, .int v1_6), (2, .int v2_6), (3, .int v3_6)], [.int v1_6, .ref 19], (W9 N C E F P Q T (gc, gb) U H (br_6, bl_6) O_311 J_6 (vf_6, vu_6, vx_6) Y Z O9), k, n)) (g := True ∧ True ∧ True) (by with_unfolding_all rfl) ⟨trivial, trivial, trivial⟩ ?_
                    replace h := Option.bind_eq_some_iff.mp h
                    obtain ⟨⟨r312, B_312, J_312, V_312⟩, hc312, h⟩ := h
                    try dsimp only at h
                    refine am_ev_call (.invokevirtual 125) 93 2 885 [.ref 19, .int v1_6] [] rfl rfl rfl rfl (ok_fm_take hc312 D (by omega)) rfl ?_
                    refine am_ev_st 1 (f' := am_br ((am_bz r312) ≠ 0) 255 251 [(6, .int (0 : Int32)), (5, .int (1 : Int32)), (4, .int r7), (0, .ref 19), (1, .int v1_6), (2, .int v2_6), (3, .int v3_6)] [] (W9 N C E F P Q T (gc, gb) U H B_312 O_311 J_312 V_312 Y Z O9) k n) (g := True ∧ True) (by with_unfolding_all rfl) ⟨trivial, trivial⟩ ?_
                    by_cases c313 : (am_bz r312) ≠ 0
                    · rw [if_pos c313] at h
                      refine am_ev_pos c313 ?_
                      obtain ⟨vf_312, vu_312, vx_312⟩ := V_312
                      try dsimp only at h
                      refine am_ev_st 7 (f' := (13, [(6, .int (0 : Int32)), (5, .int (1 : Int32)), (4, .int r7), (0, .ref 19), (1, .int v1_6), (2, .int v2_6), (3, .int v3_6)], [], (W9 N C E F P Q T (gc, gb) U H B_312 O_311 J_312 (vf_312, (vu_312 + (1 : Int32)), vx_312) Y Z O9), k, n)) (g := True ∧ True ∧ True ∧ True ∧ True ∧ True ∧ True ∧ True) (by with_unfolding_all rfl) ⟨trivial, trivial, trivial, trivial, trivial, trivial, trivial, trivial⟩ ?_
                      refine am_ev_drop [3, 4, 5] rfl rfl ?_
                      exact ih h
                    · rw [if_neg c313] at h
                      refine am_ev_neg c313 ?_
                      cases h
                      exact am_ev_vret 0 0 0 rfl rfl rfl
                  · rw [if_neg c306] at h
                    refine am_ev_neg c306 ?_
                    refine am_ev_st 5 (f' := (137, [(6, .int (0 : Int32)), (5, .int (1 : Int32)), (4, .int r7), (0, .ref 19), (1, .int v1_6), (2, .int v2_6), (3, .int v3_6)], [.int (v3_6 + (1 : Int32)), .int v1_6, .ref 19], (W9 N C E F P Q T (gc, gb) U H B_6 O_305 J_6 (vf_6, vu_6, vx_6) Y Z O9), k, n)) (g := True ∧ True ∧ True ∧ True ∧ True ∧ True) (by with_unfolding_all rfl) ⟨trivial, trivial, trivial, trivial, trivial, trivial⟩ ?_
                    replace h := Option.bind_eq_some_iff.mp h
                    obtain ⟨r314, hc314, h⟩ := h
                    try dsimp only at h
                    refine am_ev_call (.invokevirtual 77) 82 4 853 [.ref 19, .int v1_6, .int (v3_6 + (1 : Int32))] [] rfl rfl rfl rfl (ok_fm_endOf hc314 D (by omega)) rfl ?_
                    refine am_ev_st 4 (f' := (146, [(7, .int r314), (6, .int (0 : Int32)), (5, .int (1 : Int32)), (4, .int r7), (0, .ref 19), (1, .int v1_6), (2, .int v2_6), (3, .int v3_6)], [.int r314, .int v1_6, .ref 19], (W9 N C E F P Q T (gc, gb) U H B_6 O_305 J_6 (vf_6, vu_6, vx_6) Y Z O9), k, n)) (g := True ∧ True ∧ True ∧ True ∧ True) (by with_unfolding_all rfl) ⟨trivial, trivial, trivial, trivial, trivial⟩ ?_
                    replace h := Option.bind_eq_some_iff.mp h
                    obtain ⟨r315, hc315, h⟩ := h
                    try dsimp only at h
                    refine am_ev_call (.invokevirtual 77) 82 4 853 [.ref 19, .int v1_6, .int r314] [] rfl rfl rfl rfl (ok_fm_endOf hc315 D (by omega)) rfl ?_
                    refine am_ev_st 4 (f' := (155, [(8, .int r315), (7, .int r314), (6, .int (0 : Int32)), (5, .int (1 : Int32)), (4, .int r7), (0, .ref 19), (1, .int v1_6), (2, .int v2_6), (3, .int v3_6)], [.int r315, .int v1_6, .ref 19], (W9 N C E F P Q T (gc, gb) U H B_6 O_305 J_6 (vf_6, vu_6, vx_6) Y Z O9), k, n)) (g := True ∧ True ∧ True ∧ True ∧ True) (by with_unfolding_all rfl) ⟨trivial, trivial, trivial, trivial, trivial⟩ ?_
                    replace h := Option.bind_eq_some_iff.mp h
                    obtain ⟨r316, hc316, h⟩ := h
                    try dsimp only at h
                    refine am_ev_call (.invokevirtual 77) 82 4 853 [.ref 19, .int v1_6, .int r315] [] rfl rfl rfl rfl (ok_fm_endOf hc316 D (by omega)) rfl ?_
                    refine am_ev_st 7 (f' := (166, [(9, .int r316), (8, .int r315), (7, .int r314), (6, .int (0 : Int32)), (5, .int (1 : Int32)), (4, .int r7), (0, .ref 19), (1, .int v1_6), (2, .int v2_6), (3, .int v3_6)], [.int (v3_6 - (1 : Int32)), .int (0 : Int32), .int v1_6, .ref 19], (W9 N C E F P Q T (gc, gb) U H B_6 O_305 J_6 (vf_6, vu_6, vx_6) Y Z O9), k, n)) (g := True ∧ True ∧ True ∧ True ∧ True ∧ True ∧ True ∧ True) (by with_unfolding_all rfl) ⟨trivial, trivial, trivial, trivial, trivial, trivial, trivial, trivial⟩ ?_
                    replace h := Option.bind_eq_some_iff.mp h
                    obtain ⟨O_317, hc317, h⟩ := h
                    try dsimp only at h
                    refine am_ev_call (.invokevirtual 117) 90 6 869 [.ref 19, .int v1_6, .int (0 : Int32), .int (v3_6 - (1 : Int32))] [] rfl rfl rfl rfl (ok_fm_putAll hc317 D (by omega)) rfl ?_
                    refine am_ev_st 7 (f' := (180, [(9, .int r316), (8, .int r315), (7, .int r314), (6, .int (0 : Int32)), (5, .int (1 : Int32)), (4, .int r7), (0, .ref 19), (1, .int v1_6), (2, .int v2_6), (3, .int v3_6)], [.int r316, .int r315, .int v1_6, .int r315, .int r314, .int v1_6, .ref 19], (W9 N C E F P Q T (gc, gb) U H B_6 O_317 J_6 (vf_6, vu_6, vx_6) Y Z O9), k, n)) (g := True ∧ True ∧ True ∧ True ∧ True ∧ True ∧ True ∧ True) (by with_unfolding_all rfl) ⟨trivial, trivial, trivial, trivial, trivial, trivial, trivial, trivial⟩ ?_
                    replace h := Option.bind_eq_some_iff.mp h
                    obtain ⟨⟨O_318, J_318⟩, hc318, h⟩ := h
                    try dsimp only at h
                    refine am_ev_call (.invokevirtual 121) 92 12 877 [.ref 19, .int v1_6, .int r314, .int r315, .int v1_6, .int r315, .int r316] [] rfl rfl rfl rfl (ok_fm_putFor hc318 D (by omega)) rfl ?_
                    obtain ⟨br_6, bl_6⟩ := B_6
                    try dsimp only at h
                    by_cases g319 : (v1_6 < 0 ∨ 96 ≤ (v1_6).toNatClampNeg)
                    · rw [if_pos g319] at h; cases h
                    rw [if_neg g319] at h
                    refine am_ev_st 7 (f' := (193, [(9, .int r316), (8, .int r315), (7, .int r314), (6, .int (0 : Int32)), (5, .int (1 : Int32)), (4, .int r7), (0, .ref 19), (1, .int v1_6), (2, .int v2_6), (3, .int v3_6)], [.int (bl_6 (v1_6).toNatClampNeg), .int r316, .int v1_6, .ref 19], (W9 N C E F P Q T (gc, gb) U H (br_6, bl_6) O_318 J_318 (vf_6, vu_6, vx_6) Y Z O9), k, n)) (g := True ∧ True ∧ True ∧ True ∧ True ∧ True ∧ vp_in (v1_6) 96 ∧ True) (by with_unfolding_all rfl) ⟨trivial, trivial, trivial, trivial, trivial, trivial, g319, trivial⟩ ?_
                    replace h := Option.bind_eq_some_iff.mp h
                    obtain ⟨O_320, hc320, h⟩ := h
                    try dsimp only at h
                    refine am_ev_call (.invokevirtual 117) 90 6 869 [.ref 19, .int v1_6, .int r316, .int (bl_6 (v1_6).toNatClampNeg)] [] rfl rfl rfl rfl (ok_fm_putAll hc320 D (by omega)) rfl ?_
                    refine am_ev_st 3 (f' := (248, [(9, .int r316), (8, .int r315), (7, .int r314), (6, .int (0 : Int32)), (5, .int (1 : Int32)), (4, .int r7), (0, .ref 19), (1, .int v1_6), (2, .int v2_6), (3, .int v3_6)], [.int v1_6, .ref 19], (W9 N C E F P Q T (gc, gb) U H (br_6, bl_6) O_320 J_318 (vf_6, vu_6, vx_6) Y Z O9), k, n)) (g := True ∧ True ∧ True ∧ True) (by with_unfolding_all rfl) ⟨trivial, trivial, trivial, trivial⟩ ?_
                    replace h := Option.bind_eq_some_iff.mp h
                    obtain ⟨⟨r321, B_321, J_321, V_321⟩, hc321, h⟩ := h
                    try dsimp only at h
                    refine am_ev_call (.invokevirtual 125) 93 2 885 [.ref 19, .int v1_6] [] rfl rfl rfl rfl (ok_fm_take hc321 D (by omega)) rfl ?_
                    refine am_ev_st 1 (f' := am_br ((am_bz r321) ≠ 0) 255 251 [(9, .int r316), (8, .int r315), (7, .int r314), (6, .int (0 : Int32)), (5, .int (1 : Int32)), (4, .int r7), (0, .ref 19), (1, .int v1_6), (2, .int v2_6), (3, .int v3_6)] [] (W9 N C E F P Q T (gc, gb) U H B_321 O_320 J_321 V_321 Y Z O9) k n) (g := True ∧ True) (by with_unfolding_all rfl) ⟨trivial, trivial⟩ ?_
                    by_cases c322 : (am_bz r321) ≠ 0
                    · rw [if_pos c322] at h
                      refine am_ev_pos c322 ?_
                      obtain ⟨vf_321, vu_321, vx_321⟩ := V_321
                      try dsimp only at h
                      refine am_ev_st 7 (f' := (13, [(9, .int r316), (8, .int r315), (7, .int r314), (6, .int (0 : Int32)), (5, .int (1 : Int32)), (4, .int r7), (0, .ref 19), (1, .int v1_6), (2, .int v2_6), (3, .int v3_6)], [], (W9 N C E F P Q T (gc, gb) U H B_321 O_320 J_321 (vf_321, (vu_321 + (1 : Int32)), vx_321) Y Z O9), k, n)) (g := True ∧ True ∧ True ∧ True ∧ True ∧ True ∧ True ∧ True) (by with_unfolding_all rfl) ⟨trivial, trivial, trivial, trivial, trivial, trivial, trivial, trivial⟩ ?_
                      refine am_ev_drop [6, 7, 8] rfl rfl ?_
                      exact ih h
                    · rw [if_neg c322] at h
                      refine am_ev_neg c322 ?_
                      cases h
                      exact am_ev_vret 0 0 0 rfl rfl rfl
                · rw [if_neg c304] at h
                  refine am_ev_neg c304 ?_
                  refine am_ev_st 3 (f' := (122, [(6, .int (0 : Int32)), (5, .int (1 : Int32)), (4, .int r7), (0, .ref 19), (1, .int v1_6), (2, .int v2_6), (3, .int v3_6)], [], (W9 N C E F P Q T (gc, gb) U H B_6 O_6 J_6 (vf_6, vu_6, (3 : Int32)) Y Z O9), k, n)) (g := True ∧ True ∧ True ∧ True) (by with_unfolding_all rfl) ⟨trivial, trivial, trivial, trivial⟩ ?_
                  cases h
                  exact am_ev_vret 0 0 0 rfl rfl rfl
              · rw [if_neg c303] at h
                refine am_ev_neg c303 ?_
                refine am_ev_st 2 (f' := am_br ((0 : Int32) ≠ 0) 106 102 [(6, .int (0 : Int32)), (5, .int (1 : Int32)), (4, .int r7), (0, .ref 19), (1, .int v1_6), (2, .int v2_6), (3, .int v3_6)] [] (W9 N C E F P Q T (gc, gb) U H B_6 O_6 J_6 V_6 Y Z O9) k n) (g := True ∧ True ∧ True) (by with_unfolding_all rfl) ⟨trivial, trivial, trivial⟩ ?_
                by_cases c323 : (0 : Int32) ≠ 0
                · rw [if_pos c323] at h
                  refine am_ev_pos c323 ?_
                  obtain ⟨vf_6, vu_6, vx_6⟩ := V_6
                  try dsimp only at h
                  refine am_ev_st 5 (f' := am_br (vu_6 ≠ vf_6) 123 114 [(6, .int (0 : Int32)), (5, .int (1 : Int32)), (4, .int r7), (0, .ref 19), (1, .int v1_6), (2, .int v2_6), (3, .int v3_6)] [] (W9 N C E F P Q T (gc, gb) U H B_6 O_6 J_6 (vf_6, vu_6, vx_6) Y Z O9) k n) (g := True ∧ True ∧ True ∧ True ∧ True ∧ True) (by with_unfolding_all rfl) ⟨trivial, trivial, trivial, trivial, trivial, trivial⟩ ?_
                  by_cases c324 : vu_6 ≠ vf_6
                  · rw [if_pos c324] at h
                    refine am_ev_pos c324 ?_
                    refine am_ev_st 1 (f' := (124, [(6, .int (0 : Int32)), (5, .int (1 : Int32)), (4, .int r7), (0, .ref 19), (1, .int v1_6), (2, .int v2_6), (3, .int v3_6)], [.ref 19], (W9 N C E F P Q T (gc, gb) U H B_6 O_6 J_6 (vf_6, vu_6, vx_6) Y Z O9), k, n)) (g := True ∧ True) (by with_unfolding_all rfl) ⟨trivial, trivial⟩ ?_
                    replace h := Option.bind_eq_some_iff.mp h
                    obtain ⟨O_325, hc325, h⟩ := h
                    try dsimp only at h
                    refine am_ev_call (.invokevirtual 114) 88 0 865 [.ref 19] [] rfl rfl rfl rfl (ok_fm_begin hc325 D (by omega)) rfl ?_
                    refine am_ev_st 2 (f' := am_br ((1 : Int32) = 0) 199 129 [(6, .int (0 : Int32)), (5, .int (1 : Int32)), (4, .int r7), (0, .ref 19), (1, .int v1_6), (2, .int v2_6), (3, .int v3_6)] [] (W9 N C E F P Q T (gc, gb) U H B_6 O_325 J_6 (vf_6, vu_6, vx_6) Y Z O9) k n) (g := True ∧ True ∧ True) (by with_unfolding_all rfl) ⟨trivial, trivial, trivial⟩ ?_
                    by_cases c326 : (1 : Int32) = 0
                    · rw [if_pos c326] at h
                      refine am_ev_pos c326 ?_
                      refine am_ev_st 4 (f' := (203, [(6, .int (0 : Int32)), (5, .int (1 : Int32)), (4, .int r7), (0, .ref 19), (1, .int v1_6), (2, .int v2_6), (3, .int v3_6)], [.int v3_6, .int (0 : Int32), .int v1_6, .ref 19], (W9 N C E F P Q T (gc, gb) U H B_6 O_325 J_6 (vf_6, vu_6, vx_6) Y Z O9), k, n)) (g := True ∧ True ∧ True ∧ True ∧ True) (by with_unfolding_all rfl) ⟨trivial, trivial, trivial, trivial, trivial⟩ ?_
                      replace h := Option.bind_eq_some_iff.mp h
                      obtain ⟨O_327, hc327, h⟩ := h
                      try dsimp only at h
                      refine am_ev_call (.invokevirtual 117) 90 6 869 [.ref 19, .int v1_6, .int (0 : Int32), .int v3_6] [] rfl rfl rfl rfl (ok_fm_putAll hc327 D (by omega)) rfl ?_
                      obtain ⟨br_6, bl_6⟩ := B_6
                      try dsimp only at h
                      by_cases g328 : (((80 : Int32) + (r7 / (10 : Int32))) < 0 ∨ 96 ≤ (((80 : Int32) + (r7 / (10 : Int32)))).toNatClampNeg)
                      · rw [if_pos g328] at h; cases h
                      rw [if_neg g328] at h
                      refine am_ev_st 15 (f' := (229, [(6, .int (0 : Int32)), (5, .int (1 : Int32)), (4, .int r7), (0, .ref 19), (1, .int v1_6), (2, .int v2_6), (3, .int v3_6)], [.int (bl_6 (((80 : Int32) + (r7 / (10 : Int32)))).toNatClampNeg), .int (0 : Int32), .int ((80 : Int32) + (r7 / (10 : Int32))), .ref 19], (W9 N C E F P Q T (gc, gb) U H (br_6, bl_6) O_327 J_6 (vf_6, vu_6, vx_6) Y Z O9), k, n)) (g := True ∧ True ∧ True ∧ True ∧ ¬ ((10 : Int32) = 0) ∧ True ∧ True ∧ True ∧ True ∧ True ∧ True ∧ True ∧ ¬ ((10 : Int32) = 0) ∧ True ∧ vp_in (((80 : Int32) + (r7 / (10 : Int32)))) 96 ∧ True) (by with_unfolding_all rfl) ⟨trivial, trivial, trivial, trivial, by decide, trivial, trivial, trivial, trivial, trivial, trivial, trivial, by decide, trivial, g328, trivial⟩ ?_
                      replace h := Option.bind_eq_some_iff.mp h
                      obtain ⟨O_329, hc329, h⟩ := h
                      try dsimp only at h
                      refine am_ev_call (.invokevirtual 117) 90 6 869 [.ref 19, .int ((80 : Int32) + (r7 / (10 : Int32))), .int (0 : Int32), .int (bl_6 (((80 : Int32) + (r7 / (10 : Int32)))).toNatClampNeg)] [] rfl rfl rfl rfl (ok_fm_putAll hc329 D (by omega)) rfl ?_
                      by_cases g330 : (v1_6 < 0 ∨ 96 ≤ (v1_6).toNatClampNeg)
                      · rw [if_pos g330] at h; cases h
                      rw [if_neg g330] at h
                      refine am_ev_st 9 (f' := (243, [(6, .int (0 : Int32)), (5, .int (1 : Int32)), (4, .int r7), (0, .ref 19), (1, .int v1_6), (2, .int v2_6), (3, .int v3_6)], [.int (bl_6 (v1_6).toNatClampNeg), .int (v3_6 + (1 : Int32)), .int v1_6, .ref 19], (W9 N C E F P Q T (gc, gb) U H (br_6, bl_6) O_329 J_6 (vf_6, vu_6, vx_6) Y Z O9), k, n)) (g := True ∧ True ∧ True ∧ True ∧ True ∧ True ∧ True ∧ True ∧ vp_in (v1_6) 96 ∧ True) (by with_unfolding_all rfl) ⟨trivial, trivial, trivial, trivial, trivial, trivial, trivial, trivial, g330, trivial⟩ ?_
                      replace h := Option.bind_eq_some_iff.mp h
                      obtain ⟨O_331, hc331, h⟩ := h
                      try dsimp only at h
                      refine am_ev_call (.invokevirtual 117) 90 6 869 [.ref 19, .int v1_6, .int (v3_6 + (1 : Int32)), .int (bl_6 (v1_6).toNatClampNeg)] [] rfl rfl rfl rfl (ok_fm_putAll hc331 D (by omega)) rfl ?_
                      refine am_ev_st 2 (f' := (248, [(6, .int (0 : Int32)), (5, .int (1 : Int32)), (4, .int r7), (0, .ref 19), (1, .int v1_6), (2, .int v2_6), (3, .int v3_6)], [.int v1_6, .ref 19], (W9 N C E F P Q T (gc, gb) U H (br_6, bl_6) O_331 J_6 (vf_6, vu_6, vx_6) Y Z O9), k, n)) (g := True ∧ True ∧ True) (by with_unfolding_all rfl) ⟨trivial, trivial, trivial⟩ ?_
                      replace h := Option.bind_eq_some_iff.mp h
                      obtain ⟨⟨r332, B_332, J_332, V_332⟩, hc332, h⟩ := h
                      try dsimp only at h
                      refine am_ev_call (.invokevirtual 125) 93 2 885 [.ref 19, .int v1_6] [] rfl rfl rfl rfl (ok_fm_take hc332 D (by omega)) rfl ?_
                      refine am_ev_st 1 (f' := am_br ((am_bz r332) ≠ 0) 255 251 [(6, .int (0 : Int32)), (5, .int (1 : Int32)), (4, .int r7), (0, .ref 19), (1, .int v1_6), (2, .int v2_6), (3, .int v3_6)] [] (W9 N C E F P Q T (gc, gb) U H B_332 O_331 J_332 V_332 Y Z O9) k n) (g := True ∧ True) (by with_unfolding_all rfl) ⟨trivial, trivial⟩ ?_
                      by_cases c333 : (am_bz r332) ≠ 0
                      · rw [if_pos c333] at h
                        refine am_ev_pos c333 ?_
                        obtain ⟨vf_332, vu_332, vx_332⟩ := V_332
                        try dsimp only at h
                        refine am_ev_st 7 (f' := (13, [(6, .int (0 : Int32)), (5, .int (1 : Int32)), (4, .int r7), (0, .ref 19), (1, .int v1_6), (2, .int v2_6), (3, .int v3_6)], [], (W9 N C E F P Q T (gc, gb) U H B_332 O_331 J_332 (vf_332, (vu_332 + (1 : Int32)), vx_332) Y Z O9), k, n)) (g := True ∧ True ∧ True ∧ True ∧ True ∧ True ∧ True ∧ True) (by with_unfolding_all rfl) ⟨trivial, trivial, trivial, trivial, trivial, trivial, trivial, trivial⟩ ?_
                        refine am_ev_drop [3, 4, 5] rfl rfl ?_
                        exact ih h
                      · rw [if_neg c333] at h
                        refine am_ev_neg c333 ?_
                        cases h
                        exact am_ev_vret 0 0 0 rfl rfl rfl
                    · rw [if_neg c326] at h
                      refine am_ev_neg c326 ?_
                      refine am_ev_st 5 (f' := (137, [(6, .int (0 : Int32)), (5, .int (1 : Int32)), (4, .int r7), (0, .ref 19), (1, .int v1_6), (2, .int v2_6), (3, .int v3_6)], [.int (v3_6 + (1 : Int32)), .int v1_6, .ref 19], (W9 N C E F P Q T (gc, gb) U H B_6 O_325 J_6 (vf_6, vu_6, vx_6) Y Z O9), k, n)) (g := True ∧ True ∧ True ∧ True ∧ True ∧ True) (by with_unfolding_all rfl) ⟨trivial, trivial, trivial, trivial, trivial, trivial⟩ ?_
                      replace h := Option.bind_eq_some_iff.mp h
                      obtain ⟨r334, hc334, h⟩ := h
                      try dsimp only at h
                      refine am_ev_call (.invokevirtual 77) 82 4 853 [.ref 19, .int v1_6, .int (v3_6 + (1 : Int32))] [] rfl rfl rfl rfl (ok_fm_endOf hc334 D (by omega)) rfl ?_
                      refine am_ev_st 4 (f' := (146, [(7, .int r334), (6, .int (0 : Int32)), (5, .int (1 : Int32)), (4, .int r7), (0, .ref 19), (1, .int v1_6), (2, .int v2_6), (3, .int v3_6)], [.int r334, .int v1_6, .ref 19], (W9 N C E F P Q T (gc, gb) U H B_6 O_325 J_6 (vf_6, vu_6, vx_6) Y Z O9), k, n)) (g := True ∧ True ∧ True ∧ True ∧ True) (by with_unfolding_all rfl) ⟨trivial, trivial, trivial, trivial, trivial⟩ ?_
                      replace h := Option.bind_eq_some_iff.mp h
                      obtain ⟨r335, hc335, h⟩ := h
                      try dsimp only at h
                      refine am_ev_call (.invokevirtual 77) 82 4 853 [.ref 19, .int v1_6, .int r334] [] rfl rfl rfl rfl (ok_fm_endOf hc335 D (by omega)) rfl ?_
                      refine am_ev_st 4 (f' := (155, [(8, .int r335), (7, .int r334), (6, .int (0 : Int32)), (5, .int (1 : Int32)), (4, .int r7), (0, .ref 19), (1, .int v1_6), (2, .int v2_6), (3, .int v3_6)], [.int r335, .int v1_6, .ref 19], (W9 N C E F P Q T (gc, gb) U H B_6 O_325 J_6 (vf_6, vu_6, vx_6) Y Z O9), k, n)) (g := True ∧ True ∧ True ∧ True ∧ True) (by with_unfolding_all rfl) ⟨trivial, trivial, trivial, trivial, trivial⟩ ?_
                      replace h := Option.bind_eq_some_iff.mp h
                      obtain ⟨r336, hc336, h⟩ := h
                      try dsimp only at h
                      refine am_ev_call (.invokevirtual 77) 82 4 853 [.ref 19, .int v1_6, .int r335] [] rfl rfl rfl rfl (ok_fm_endOf hc336 D (by omega)) rfl ?_
                      refine am_ev_st 7 (f' := (166, [(9, .int r336), (8, .int r335), (7, .int r334), (6, .int (0 : Int32)), (5, .int (1 : Int32)), (4, .int r7), (0, .ref 19), (1, .int v1_6), (2, .int v2_6), (3, .int v3_6)], [.int (v3_6 - (1 : Int32)), .int (0 : Int32), .int v1_6, .ref 19], (W9 N C E F P Q T (gc, gb) U H B_6 O_325 J_6 (vf_6, vu_6, vx_6) Y Z O9), k, n)) (g := True ∧ True ∧ True ∧ True ∧ True ∧ True ∧ True ∧ True) (by with_unfolding_all rfl) ⟨trivial, trivial, trivial, trivial, trivial, trivial, trivial, trivial⟩ ?_
                      replace h := Option.bind_eq_some_iff.mp h
                      obtain ⟨O_337, hc337, h⟩ := h
                      try dsimp only at h
                      refine am_ev_call (.invokevirtual 117) 90 6 869 [.ref 19, .int v1_6, .int (0 : Int32), .int (v3_6 - (1 : Int32))] [] rfl rfl rfl rfl (ok_fm_putAll hc337 D (by omega)) rfl ?_
                      refine am_ev_st 7 (f' := (180, [(9, .int r336), (8, .int r335), (7, .int r334), (6, .int (0 : Int32)), (5, .int (1 : Int32)), (4, .int r7), (0, .ref 19), (1, .int v1_6), (2, .int v2_6), (3, .int v3_6)], [.int r336, .int r335, .int v1_6, .int r335, .int r334, .int v1_6, .ref 19], (W9 N C E F P Q T (gc, gb) U H B_6 O_337 J_6 (vf_6, vu_6, vx_6) Y Z O9), k, n)) (g := True ∧ True ∧ True ∧ True ∧ True ∧ True ∧ True ∧ True) (by with_unfolding_all rfl) ⟨trivial, trivial, trivial, trivial, trivial, trivial, trivial, trivial⟩ ?_
                      replace h := Option.bind_eq_some_iff.mp h
                      obtain ⟨⟨O_338, J_338⟩, hc338, h⟩ := h
                      try dsimp only at h
                      refine am_ev_call (.invokevirtual 121) 92 12 877 [.ref 19, .int v1_6, .int r334, .int r335, .int v1_6, .int r335, .int r336] [] rfl rfl rfl rfl (ok_fm_putFor hc338 D (by omega)) rfl ?_
                      obtain ⟨br_6, bl_6⟩ := B_6
                      try dsimp only at h
                      by_cases g339 : (v1_6 < 0 ∨ 96 ≤ (v1_6).toNatClampNeg)
                      · rw [if_pos g339] at h; cases h
                      rw [if_neg g339] at h
                      refine am_ev_st 7 (f' := (193, [(9, .int r336), (8, .int r335), (7, .int r334), (6, .int (0 : Int32)), (5, .int (1 : Int32)), (4, .int r7), (0, .ref 19), (1, .int v1_6), (2, .int v2_6), (3, .int v3_6)], [.int (bl_6 (v1_6).toNatClampNeg), .int r336, .int v1_6, .ref 19], (W9 N C E F P Q T (gc, gb) U H (br_6, bl_6) O_338 J_338 (vf_6, vu_6, vx_6) Y Z O9), k, n)) (g := True ∧ True ∧ True ∧ True ∧ True ∧ True ∧ vp_in (v1_6) 96 ∧ True) (by with_unfolding_all rfl) ⟨trivial, trivial, trivial, trivial, trivial, trivial, g339, trivial⟩ ?_
                      replace h := Option.bind_eq_some_iff.mp h
                      obtain ⟨O_340, hc340, h⟩ := h
                      try dsimp only at h
                      refine am_ev_call (.invokevirtual 117) 90 6 869 [.ref 19, .int v1_6, .int r336, .int (bl_6 (v1_6).toNatClampNeg)] [] rfl rfl rfl rfl (ok_fm_putAll hc340 D (by omega)) rfl ?_
                      refine am_ev_st 3 (f' := (248, [(9, .int r336), (8, .int r335), (7, .int r334), (6, .int (0 : Int32)), (5, .int (1 : Int32)), (4, .int r7), (0, .ref 19), (1, .int v1_6), (2, .int v2_6), (3, .int v3_6)], [.int v1_6, .ref 19], (W9 N C E F P Q T (gc, gb) U H (br_6, bl_6) O_340 J_338 (vf_6, vu_6, vx_6) Y Z O9), k, n)) (g := True ∧ True ∧ True ∧ True) (by with_unfolding_all rfl) ⟨trivial, trivial, trivial, trivial⟩ ?_
                      replace h := Option.bind_eq_some_iff.mp h
                      obtain ⟨⟨r341, B_341, J_341, V_341⟩, hc341, h⟩ := h
                      try dsimp only at h
                      refine am_ev_call (.invokevirtual 125) 93 2 885 [.ref 19, .int v1_6] [] rfl rfl rfl rfl (ok_fm_take hc341 D (by omega)) rfl ?_
                      refine am_ev_st 1 (f' := am_br ((am_bz r341) ≠ 0) 255 251 [(9, .int r336), (8, .int r335), (7, .int r334), (6, .int (0 : Int32)), (5, .int (1 : Int32)), (4, .int r7), (0, .ref 19), (1, .int v1_6), (2, .int v2_6), (3, .int v3_6)] [] (W9 N C E F P Q T (gc, gb) U H B_341 O_340 J_341 V_341 Y Z O9) k n) (g := True ∧ True) (by with_unfolding_all rfl) ⟨trivial, trivial⟩ ?_
                      by_cases c342 : (am_bz r341) ≠ 0
                      · rw [if_pos c342] at h
                        refine am_ev_pos c342 ?_
                        obtain ⟨vf_341, vu_341, vx_341⟩ := V_341
                        try dsimp only at h
                        refine am_ev_st 7 (f' := (13, [(9, .int r336), (8, .int r335), (7, .int r334), (6, .int (0 : Int32)), (5, .int (1 : Int32)), (4, .int r7), (0, .ref 19), (1, .int v1_6), (2, .int v2_6), (3, .int v3_6)], [], (W9 N C E F P Q T (gc, gb) U H B_341 O_340 J_341 (vf_341, (vu_341 + (1 : Int32)), vx_341) Y Z O9), k, n)) (g := True ∧ True ∧ True ∧ True ∧ True ∧ True ∧ True ∧ True) (by with_unfolding_all rfl) ⟨trivial, trivial, trivial, trivial, trivial, trivial, trivial, trivial⟩ ?_
                        refine am_ev_drop [6, 7, 8] rfl rfl ?_
                        exact ih h
                      · rw [if_neg c342] at h
                        refine am_ev_neg c342 ?_
                        cases h
                        exact am_ev_vret 0 0 0 rfl rfl rfl
                  · rw [if_neg c324] at h
                    refine am_ev_neg c324 ?_
                    refine am_ev_st 3 (f' := (122, [(6, .int (0 : Int32)), (5, .int (1 : Int32)), (4, .int r7), (0, .ref 19), (1, .int v1_6), (2, .int v2_6), (3, .int v3_6)], [], (W9 N C E F P Q T (gc, gb) U H B_6 O_6 J_6 (vf_6, vu_6, (3 : Int32)) Y Z O9), k, n)) (g := True ∧ True ∧ True ∧ True) (by with_unfolding_all rfl) ⟨trivial, trivial, trivial, trivial⟩ ?_
                    cases h
                    exact am_ev_vret 0 0 0 rfl rfl rfl
                · rw [if_neg c323] at h
                  refine am_ev_neg c323 ?_
                  cases h
                  exact am_ev_vret 0 0 0 rfl rfl rfl
            · rw [if_neg c302] at h
              refine am_ev_neg c302 ?_
              refine am_ev_st 5 (f' := am_br ((1 : Int32) ≠ 0) 106 97 [(6, .int (1 : Int32)), (5, .int (1 : Int32)), (4, .int r7), (0, .ref 19), (1, .int v1_6), (2, .int v2_6), (3, .int v3_6)] [] (W9 N C E F P Q T (gc, gb) U H B_6 O_6 J_6 V_6 Y Z O9) k n) (g := True ∧ True ∧ True ∧ True ∧ True ∧ True) (by with_unfolding_all rfl) ⟨trivial, trivial, trivial, trivial, trivial, trivial⟩ ?_
              by_cases c343 : (1 : Int32) ≠ 0
              · rw [if_pos c343] at h
                refine am_ev_pos c343 ?_
                obtain ⟨vf_6, vu_6, vx_6⟩ := V_6
                try dsimp only at h
                refine am_ev_st 5 (f' := am_br (vu_6 ≠ vf_6) 123 114 [(6, .int (1 : Int32)), (5, .int (1 : Int32)), (4, .int r7), (0, .ref 19), (1, .int v1_6), (2, .int v2_6), (3, .int v3_6)] [] (W9 N C E F P Q T (gc, gb) U H B_6 O_6 J_6 (vf_6, vu_6, vx_6) Y Z O9) k n) (g := True ∧ True ∧ True ∧ True ∧ True ∧ True) (by with_unfolding_all rfl) ⟨trivial, trivial, trivial, trivial, trivial, trivial⟩ ?_
                by_cases c344 : vu_6 ≠ vf_6
                · rw [if_pos c344] at h
                  refine am_ev_pos c344 ?_
                  refine am_ev_st 1 (f' := (124, [(6, .int (1 : Int32)), (5, .int (1 : Int32)), (4, .int r7), (0, .ref 19), (1, .int v1_6), (2, .int v2_6), (3, .int v3_6)], [.ref 19], (W9 N C E F P Q T (gc, gb) U H B_6 O_6 J_6 (vf_6, vu_6, vx_6) Y Z O9), k, n)) (g := True ∧ True) (by with_unfolding_all rfl) ⟨trivial, trivial⟩ ?_
                  replace h := Option.bind_eq_some_iff.mp h
                  obtain ⟨O_345, hc345, h⟩ := h
                  try dsimp only at h
                  refine am_ev_call (.invokevirtual 114) 88 0 865 [.ref 19] [] rfl rfl rfl rfl (ok_fm_begin hc345 D (by omega)) rfl ?_
                  refine am_ev_st 2 (f' := am_br ((1 : Int32) = 0) 199 129 [(6, .int (1 : Int32)), (5, .int (1 : Int32)), (4, .int r7), (0, .ref 19), (1, .int v1_6), (2, .int v2_6), (3, .int v3_6)] [] (W9 N C E F P Q T (gc, gb) U H B_6 O_345 J_6 (vf_6, vu_6, vx_6) Y Z O9) k n) (g := True ∧ True ∧ True) (by with_unfolding_all rfl) ⟨trivial, trivial, trivial⟩ ?_
                  by_cases c346 : (1 : Int32) = 0
                  · rw [if_pos c346] at h
                    refine am_ev_pos c346 ?_
                    refine am_ev_st 4 (f' := (203, [(6, .int (1 : Int32)), (5, .int (1 : Int32)), (4, .int r7), (0, .ref 19), (1, .int v1_6), (2, .int v2_6), (3, .int v3_6)], [.int v3_6, .int (0 : Int32), .int v1_6, .ref 19], (W9 N C E F P Q T (gc, gb) U H B_6 O_345 J_6 (vf_6, vu_6, vx_6) Y Z O9), k, n)) (g := True ∧ True ∧ True ∧ True ∧ True) (by with_unfolding_all rfl) ⟨trivial, trivial, trivial, trivial, trivial⟩ ?_
                    replace h := Option.bind_eq_some_iff.mp h
                    obtain ⟨O_347, hc347, h⟩ := h
                    try dsimp only at h
                    refine am_ev_call (.invokevirtual 117) 90 6 869 [.ref 19, .int v1_6, .int (0 : Int32), .int v3_6] [] rfl rfl rfl rfl (ok_fm_putAll hc347 D (by omega)) rfl ?_
                    obtain ⟨br_6, bl_6⟩ := B_6
                    try dsimp only at h
                    by_cases g348 : (((80 : Int32) + (r7 / (10 : Int32))) < 0 ∨ 96 ≤ (((80 : Int32) + (r7 / (10 : Int32)))).toNatClampNeg)
                    · rw [if_pos g348] at h; cases h
                    rw [if_neg g348] at h
                    refine am_ev_st 15 (f' := (229, [(6, .int (1 : Int32)), (5, .int (1 : Int32)), (4, .int r7), (0, .ref 19), (1, .int v1_6), (2, .int v2_6), (3, .int v3_6)], [.int (bl_6 (((80 : Int32) + (r7 / (10 : Int32)))).toNatClampNeg), .int (0 : Int32), .int ((80 : Int32) + (r7 / (10 : Int32))), .ref 19], (W9 N C E F P Q T (gc, gb) U H (br_6, bl_6) O_347 J_6 (vf_6, vu_6, vx_6) Y Z O9), k, n)) (g := True ∧ True ∧ True ∧ True ∧ ¬ ((10 : Int32) = 0) ∧ True ∧ True ∧ True ∧ True ∧ True ∧ True ∧ True ∧ ¬ ((10 : Int32) = 0) ∧ True ∧ vp_in (((80 : Int32) + (r7 / (10 : Int32)))) 96 ∧ True) (by with_unfolding_all rfl) ⟨trivial, trivial, trivial, trivial, by decide, trivial, trivial, trivial, trivial, trivial, trivial, trivial, by decide, trivial, g348, trivial⟩ ?_
                    replace h := Option.bind_eq_some_iff.mp h
                    obtain ⟨O_349, hc349, h⟩ := h
                    try dsimp only at h
                    refine am_ev_call (.invokevirtual 117) 90 6 869 [.ref 19, .int ((80 : Int32) + (r7 / (10 : Int32))), .int (0 : Int32), .int (bl_6 (((80 : Int32) + (r7 / (10 : Int32)))).toNatClampNeg)] [] rfl rfl rfl rfl (ok_fm_putAll hc349 D (by omega)) rfl ?_
                    by_cases g350 : (v1_6 < 0 ∨ 96 ≤ (v1_6).toNatClampNeg)
                    · rw [if_pos g350] at h; cases h
                    rw [if_neg g350] at h
                    refine am_ev_st 9 (f' := (243, [(6, .int (1 : Int32)), (5, .int (1 : Int32)), (4, .int r7), (0, .ref 19), (1, .int v1_6), (2, .int v2_6), (3, .int v3_6)], [.int (bl_6 (v1_6).toNatClampNeg), .int (v3_6 + (1 : Int32)), .int v1_6, .ref 19], (W9 N C E F P Q T (gc, gb) U H (br_6, bl_6) O_349 J_6 (vf_6, vu_6, vx_6) Y Z O9), k, n)) (g := True ∧ True ∧ True ∧ True ∧ True ∧ True ∧ True ∧ True ∧ vp_in (v1_6) 96 ∧ True) (by with_unfolding_all rfl) ⟨trivial, trivial, trivial, trivial, trivial, trivial, trivial, trivial, g350, trivial⟩ ?_
                    replace h := Option.bind_eq_some_iff.mp h
                    obtain ⟨O_351, hc351, h⟩ := h
                    try dsimp only at h
                    refine am_ev_call (.invokevirtual 117) 90 6 869 [.ref 19, .int v1_6, .int (v3_6 + (1 : Int32)), .int (bl_6 (v1_6).toNatClampNeg)] [] rfl rfl rfl rfl (ok_fm_putAll hc351 D (by omega)) rfl ?_
                    refine am_ev_st 2 (f' := (248, [(6, .int (1 : Int32)), (5, .int (1 : Int32)), (4, .int r7), (0, .ref 19), (1, .int v1_6), (2, .int v2_6), (3, .int v3_6)], [.int v1_6, .ref 19], (W9 N C E F P Q T (gc, gb) U H (br_6, bl_6) O_351 J_6 (vf_6, vu_6, vx_6) Y Z O9), k, n)) (g := True ∧ True ∧ True) (by with_unfolding_all rfl) ⟨trivial, trivial, trivial⟩ ?_
                    replace h := Option.bind_eq_some_iff.mp h
                    obtain ⟨⟨r352, B_352, J_352, V_352⟩, hc352, h⟩ := h
                    try dsimp only at h
                    refine am_ev_call (.invokevirtual 125) 93 2 885 [.ref 19, .int v1_6] [] rfl rfl rfl rfl (ok_fm_take hc352 D (by omega)) rfl ?_
                    refine am_ev_st 1 (f' := am_br ((am_bz r352) ≠ 0) 255 251 [(6, .int (1 : Int32)), (5, .int (1 : Int32)), (4, .int r7), (0, .ref 19), (1, .int v1_6), (2, .int v2_6), (3, .int v3_6)] [] (W9 N C E F P Q T (gc, gb) U H B_352 O_351 J_352 V_352 Y Z O9) k n) (g := True ∧ True) (by with_unfolding_all rfl) ⟨trivial, trivial⟩ ?_
                    by_cases c353 : (am_bz r352) ≠ 0
                    · rw [if_pos c353] at h
                      refine am_ev_pos c353 ?_
                      obtain ⟨vf_352, vu_352, vx_352⟩ := V_352
                      try dsimp only at h
                      refine am_ev_st 7 (f' := (13, [(6, .int (1 : Int32)), (5, .int (1 : Int32)), (4, .int r7), (0, .ref 19), (1, .int v1_6), (2, .int v2_6), (3, .int v3_6)], [], (W9 N C E F P Q T (gc, gb) U H B_352 O_351 J_352 (vf_352, (vu_352 + (1 : Int32)), vx_352) Y Z O9), k, n)) (g := True ∧ True ∧ True ∧ True ∧ True ∧ True ∧ True ∧ True) (by with_unfolding_all rfl) ⟨trivial, trivial, trivial, trivial, trivial, trivial, trivial, trivial⟩ ?_
                      refine am_ev_drop [3, 4, 5] rfl rfl ?_
                      exact ih h
                    · rw [if_neg c353] at h
                      refine am_ev_neg c353 ?_
                      cases h
                      exact am_ev_vret 0 0 0 rfl rfl rfl
                  · rw [if_neg c346] at h
                    refine am_ev_neg c346 ?_
                    refine am_ev_st 5 (f' := (137, [(6, .int (1 : Int32)), (5, .int (1 : Int32)), (4, .int r7), (0, .ref 19), (1, .int v1_6), (2, .int v2_6), (3, .int v3_6)], [.int (v3_6 + (1 : Int32)), .int v1_6, .ref 19], (W9 N C E F P Q T (gc, gb) U H B_6 O_345 J_6 (vf_6, vu_6, vx_6) Y Z O9), k, n)) (g := True ∧ True ∧ True ∧ True ∧ True ∧ True) (by with_unfolding_all rfl) ⟨trivial, trivial, trivial, trivial, trivial, trivial⟩ ?_
                    replace h := Option.bind_eq_some_iff.mp h
                    obtain ⟨r354, hc354, h⟩ := h
                    try dsimp only at h
                    refine am_ev_call (.invokevirtual 77) 82 4 853 [.ref 19, .int v1_6, .int (v3_6 + (1 : Int32))] [] rfl rfl rfl rfl (ok_fm_endOf hc354 D (by omega)) rfl ?_
                    refine am_ev_st 4 (f' := (146, [(7, .int r354), (6, .int (1 : Int32)), (5, .int (1 : Int32)), (4, .int r7), (0, .ref 19), (1, .int v1_6), (2, .int v2_6), (3, .int v3_6)], [.int r354, .int v1_6, .ref 19], (W9 N C E F P Q T (gc, gb) U H B_6 O_345 J_6 (vf_6, vu_6, vx_6) Y Z O9), k, n)) (g := True ∧ True ∧ True ∧ True ∧ True) (by with_unfolding_all rfl) ⟨trivial, trivial, trivial, trivial, trivial⟩ ?_
                    replace h := Option.bind_eq_some_iff.mp h
                    obtain ⟨r355, hc355, h⟩ := h
                    try dsimp only at h
                    refine am_ev_call (.invokevirtual 77) 82 4 853 [.ref 19, .int v1_6, .int r354] [] rfl rfl rfl rfl (ok_fm_endOf hc355 D (by omega)) rfl ?_
                    refine am_ev_st 4 (f' := (155, [(8, .int r355), (7, .int r354), (6, .int (1 : Int32)), (5, .int (1 : Int32)), (4, .int r7), (0, .ref 19), (1, .int v1_6), (2, .int v2_6), (3, .int v3_6)], [.int r355, .int v1_6, .ref 19], (W9 N C E F P Q T (gc, gb) U H B_6 O_345 J_6 (vf_6, vu_6, vx_6) Y Z O9), k, n)) (g := True ∧ True ∧ True ∧ True ∧ True) (by with_unfolding_all rfl) ⟨trivial, trivial, trivial, trivial, trivial⟩ ?_
                    replace h := Option.bind_eq_some_iff.mp h
                    obtain ⟨r356, hc356, h⟩ := h
                    try dsimp only at h
                    refine am_ev_call (.invokevirtual 77) 82 4 853 [.ref 19, .int v1_6, .int r355] [] rfl rfl rfl rfl (ok_fm_endOf hc356 D (by omega)) rfl ?_
                    refine am_ev_st 7 (f' := (166, [(9, .int r356), (8, .int r355), (7, .int r354), (6, .int (1 : Int32)), (5, .int (1 : Int32)), (4, .int r7), (0, .ref 19), (1, .int v1_6), (2, .int v2_6), (3, .int v3_6)], [.int (v3_6 - (1 : Int32)), .int (0 : Int32), .int v1_6, .ref 19], (W9 N C E F P Q T (gc, gb) U H B_6 O_345 J_6 (vf_6, vu_6, vx_6) Y Z O9), k, n)) (g := True ∧ True ∧ True ∧ True ∧ True ∧ True ∧ True ∧ True) (by with_unfolding_all rfl) ⟨trivial, trivial, trivial, trivial, trivial, trivial, trivial, trivial⟩ ?_
                    replace h := Option.bind_eq_some_iff.mp h
                    obtain ⟨O_357, hc357, h⟩ := h
                    try dsimp only at h
                    refine am_ev_call (.invokevirtual 117) 90 6 869 [.ref 19, .int v1_6, .int (0 : Int32), .int (v3_6 - (1 : Int32))] [] rfl rfl rfl rfl (ok_fm_putAll hc357 D (by omega)) rfl ?_
                    refine am_ev_st 7 (f' := (180, [(9, .int r356), (8, .int r355), (7, .int r354), (6, .int (1 : Int32)), (5, .int (1 : Int32)), (4, .int r7), (0, .ref 19), (1, .int v1_6), (2, .int v2_6), (3, .int v3_6)], [.int r356, .int r355, .int v1_6, .int r355, .int r354, .int v1_6, .ref 19], (W9 N C E F P Q T (gc, gb) U H B_6 O_357 J_6 (vf_6, vu_6, vx_6) Y Z O9), k, n)) (g := True ∧ True ∧ True ∧ True ∧ True ∧ True ∧ True ∧ True) (by with_unfolding_all rfl) ⟨trivial, trivial, trivial, trivial, trivial, trivial, trivial, trivial⟩ ?_
                    replace h := Option.bind_eq_some_iff.mp h
                    obtain ⟨⟨O_358, J_358⟩, hc358, h⟩ := h
                    try dsimp only at h
                    refine am_ev_call (.invokevirtual 121) 92 12 877 [.ref 19, .int v1_6, .int r354, .int r355, .int v1_6, .int r355, .int r356] [] rfl rfl rfl rfl (ok_fm_putFor hc358 D (by omega)) rfl ?_
                    obtain ⟨br_6, bl_6⟩ := B_6
                    try dsimp only at h
                    by_cases g359 : (v1_6 < 0 ∨ 96 ≤ (v1_6).toNatClampNeg)
                    · rw [if_pos g359] at h; cases h
                    rw [if_neg g359] at h
                    refine am_ev_st 7 (f' := (193, [(9, .int r356), (8, .int r355), (7, .int r354), (6, .int (1 : Int32)), (5, .int (1 : Int32)), (4, .int r7), (0, .ref 19), (1, .int v1_6), (2, .int v2_6), (3, .int v3_6)], [.int (bl_6 (v1_6).toNatClampNeg), .int r356, .int v1_6, .ref 19], (W9 N C E F P Q T (gc, gb) U H (br_6, bl_6) O_358 J_358 (vf_6, vu_6, vx_6) Y Z O9), k, n)) (g := True ∧ True ∧ True ∧ True ∧ True ∧ True ∧ vp_in (v1_6) 96 ∧ True) (by with_unfolding_all rfl) ⟨trivial, trivial, trivial, trivial, trivial, trivial, g359, trivial⟩ ?_
                    replace h := Option.bind_eq_some_iff.mp h
                    obtain ⟨O_360, hc360, h⟩ := h
                    try dsimp only at h
                    refine am_ev_call (.invokevirtual 117) 90 6 869 [.ref 19, .int v1_6, .int r356, .int (bl_6 (v1_6).toNatClampNeg)] [] rfl rfl rfl rfl (ok_fm_putAll hc360 D (by omega)) rfl ?_
                    refine am_ev_st 3 (f' := (248, [(9, .int r356), (8, .int r355), (7, .int r354), (6, .int (1 : Int32)), (5, .int (1 : Int32)), (4, .int r7), (0, .ref 19), (1, .int v1_6), (2, .int v2_6), (3, .int v3_6)], [.int v1_6, .ref 19], (W9 N C E F P Q T (gc, gb) U H (br_6, bl_6) O_360 J_358 (vf_6, vu_6, vx_6) Y Z O9), k, n)) (g := True ∧ True ∧ True ∧ True) (by with_unfolding_all rfl) ⟨trivial, trivial, trivial, trivial⟩ ?_
                    replace h := Option.bind_eq_some_iff.mp h
                    obtain ⟨⟨r361, B_361, J_361, V_361⟩, hc361, h⟩ := h
                    try dsimp only at h
                    refine am_ev_call (.invokevirtual 125) 93 2 885 [.ref 19, .int v1_6] [] rfl rfl rfl rfl (ok_fm_take hc361 D (by omega)) rfl ?_
                    refine am_ev_st 1 (f' := am_br ((am_bz r361) ≠ 0) 255 251 [(9, .int r356), (8, .int r355), (7, .int r354), (6, .int (1 : Int32)), (5, .int (1 : Int32)), (4, .int r7), (0, .ref 19), (1, .int v1_6), (2, .int v2_6), (3, .int v3_6)] [] (W9 N C E F P Q T (gc, gb) U H B_361 O_360 J_361 V_361 Y Z O9) k n) (g := True ∧ True) (by with_unfolding_all rfl) ⟨trivial, trivial⟩ ?_
                    by_cases c362 : (am_bz r361) ≠ 0
                    · rw [if_pos c362] at h
                      refine am_ev_pos c362 ?_
                      obtain ⟨vf_361, vu_361, vx_361⟩ := V_361
                      try dsimp only at h
                      refine am_ev_st 7 (f' := (13, [(9, .int r356), (8, .int r355), (7, .int r354), (6, .int (1 : Int32)), (5, .int (1 : Int32)), (4, .int r7), (0, .ref 19), (1, .int v1_6), (2, .int v2_6), (3, .int v3_6)], [], (W9 N C E F P Q T (gc, gb) U H B_361 O_360 J_361 (vf_361, (vu_361 + (1 : Int32)), vx_361) Y Z O9), k, n)) (g := True ∧ True ∧ True ∧ True ∧ True ∧ True ∧ True ∧ True) (by with_unfolding_all rfl) ⟨trivial, trivial, trivial, trivial, trivial, trivial, trivial, trivial⟩ ?_
                      refine am_ev_drop [6, 7, 8] rfl rfl ?_
                      exact ih h
                    · rw [if_neg c362] at h
                      refine am_ev_neg c362 ?_
                      cases h
                      exact am_ev_vret 0 0 0 rfl rfl rfl
                · rw [if_neg c344] at h
                  refine am_ev_neg c344 ?_
                  refine am_ev_st 3 (f' := (122, [(6, .int (1 : Int32)), (5, .int (1 : Int32)), (4, .int r7), (0, .ref 19), (1, .int v1_6), (2, .int v2_6), (3, .int v3_6)], [], (W9 N C E F P Q T (gc, gb) U H B_6 O_6 J_6 (vf_6, vu_6, (3 : Int32)) Y Z O9), k, n)) (g := True ∧ True ∧ True ∧ True) (by with_unfolding_all rfl) ⟨trivial, trivial, trivial, trivial⟩ ?_
                  cases h
                  exact am_ev_vret 0 0 0 rfl rfl rfl
              · rw [if_neg c343] at h
                refine am_ev_neg c343 ?_
                refine am_ev_st 2 (f' := am_br ((1 : Int32) ≠ 0) 106 102 [(6, .int (1 : Int32)), (5, .int (1 : Int32)), (4, .int r7), (0, .ref 19), (1, .int v1_6), (2, .int v2_6), (3, .int v3_6)] [] (W9 N C E F P Q T (gc, gb) U H B_6 O_6 J_6 V_6 Y Z O9) k n) (g := True ∧ True ∧ True) (by with_unfolding_all rfl) ⟨trivial, trivial, trivial⟩ ?_
                by_cases c363 : (1 : Int32) ≠ 0
                · rw [if_pos c363] at h
                  refine am_ev_pos c363 ?_
                  obtain ⟨vf_6, vu_6, vx_6⟩ := V_6
                  try dsimp only at h
                  refine am_ev_st 5 (f' := am_br (vu_6 ≠ vf_6) 123 114 [(6, .int (1 : Int32)), (5, .int (1 : Int32)), (4, .int r7), (0, .ref 19), (1, .int v1_6), (2, .int v2_6), (3, .int v3_6)] [] (W9 N C E F P Q T (gc, gb) U H B_6 O_6 J_6 (vf_6, vu_6, vx_6) Y Z O9) k n) (g := True ∧ True ∧ True ∧ True ∧ True ∧ True) (by with_unfolding_all rfl) ⟨trivial, trivial, trivial, trivial, trivial, trivial⟩ ?_
                  by_cases c364 : vu_6 ≠ vf_6
                  · rw [if_pos c364] at h
                    refine am_ev_pos c364 ?_
                    refine am_ev_st 1 (f' := (124, [(6, .int (1 : Int32)), (5, .int (1 : Int32)), (4, .int r7), (0, .ref 19), (1, .int v1_6), (2, .int v2_6), (3, .int v3_6)], [.ref 19], (W9 N C E F P Q T (gc, gb) U H B_6 O_6 J_6 (vf_6, vu_6, vx_6) Y Z O9), k, n)) (g := True ∧ True) (by with_unfolding_all rfl) ⟨trivial, trivial⟩ ?_
                    replace h := Option.bind_eq_some_iff.mp h
                    obtain ⟨O_365, hc365, h⟩ := h
                    try dsimp only at h
                    refine am_ev_call (.invokevirtual 114) 88 0 865 [.ref 19] [] rfl rfl rfl rfl (ok_fm_begin hc365 D (by omega)) rfl ?_
                    refine am_ev_st 2 (f' := am_br ((1 : Int32) = 0) 199 129 [(6, .int (1 : Int32)), (5, .int (1 : Int32)), (4, .int r7), (0, .ref 19), (1, .int v1_6), (2, .int v2_6), (3, .int v3_6)] [] (W9 N C E F P Q T (gc, gb) U H B_6 O_365 J_6 (vf_6, vu_6, vx_6) Y Z O9) k n) (g := True ∧ True ∧ True) (by with_unfolding_all rfl) ⟨trivial, trivial, trivial⟩ ?_
                    by_cases c366 : (1 : Int32) = 0
                    · rw [if_pos c366] at h
                      refine am_ev_pos c366 ?_
                      refine am_ev_st 4 (f' := (203, [(6, .int (1 : Int32)), (5, .int (1 : Int32)), (4, .int r7), (0, .ref 19), (1, .int v1_6), (2, .int v2_6), (3, .int v3_6)], [.int v3_6, .int (0 : Int32), .int v1_6, .ref 19], (W9 N C E F P Q T (gc, gb) U H B_6 O_365 J_6 (vf_6, vu_6, vx_6) Y Z O9), k, n)) (g := True ∧ True ∧ True ∧ True ∧ True) (by with_unfolding_all rfl) ⟨trivial, trivial, trivial, trivial, trivial⟩ ?_
                      replace h := Option.bind_eq_some_iff.mp h
                      obtain ⟨O_367, hc367, h⟩ := h
                      try dsimp only at h
                      refine am_ev_call (.invokevirtual 117) 90 6 869 [.ref 19, .int v1_6, .int (0 : Int32), .int v3_6] [] rfl rfl rfl rfl (ok_fm_putAll hc367 D (by omega)) rfl ?_
                      obtain ⟨br_6, bl_6⟩ := B_6
                      try dsimp only at h
                      by_cases g368 : (((80 : Int32) + (r7 / (10 : Int32))) < 0 ∨ 96 ≤ (((80 : Int32) + (r7 / (10 : Int32)))).toNatClampNeg)
                      · rw [if_pos g368] at h; cases h
                      rw [if_neg g368] at h
                      refine am_ev_st 15 (f' := (229, [(6, .int (1 : Int32)), (5, .int (1 : Int32)), (4, .int r7), (0, .ref 19), (1, .int v1_6), (2, .int v2_6), (3, .int v3_6)], [.int (bl_6 (((80 : Int32) + (r7 / (10 : Int32)))).toNatClampNeg), .int (0 : Int32), .int ((80 : Int32) + (r7 / (10 : Int32))), .ref 19], (W9 N C E F P Q T (gc, gb) U H (br_6, bl_6) O_367 J_6 (vf_6, vu_6, vx_6) Y Z O9), k, n)) (g := True ∧ True ∧ True ∧ True ∧ ¬ ((10 : Int32) = 0) ∧ True ∧ True ∧ True ∧ True ∧ True ∧ True ∧ True ∧ ¬ ((10 : Int32) = 0) ∧ True ∧ vp_in (((80 : Int32) + (r7 / (10 : Int32)))) 96 ∧ True) (by with_unfolding_all rfl) ⟨trivial, trivial, trivial, trivial, by decide, trivial, trivial, trivial, trivial, trivial, trivial, trivial, by decide, trivial, g368, trivial⟩ ?_
                      replace h := Option.bind_eq_some_iff.mp h
                      obtain ⟨O_369, hc369, h⟩ := h
                      try dsimp only at h
                      refine am_ev_call (.invokevirtual 117) 90 6 869 [.ref 19, .int ((80 : Int32) + (r7 / (10 : Int32))), .int (0 : Int32), .int (bl_6 (((80 : Int32) + (r7 / (10 : Int32)))).toNatClampNeg)] [] rfl rfl rfl rfl (ok_fm_putAll hc369 D (by omega)) rfl ?_
                      by_cases g370 : (v1_6 < 0 ∨ 96 ≤ (v1_6).toNatClampNeg)
                      · rw [if_pos g370] at h; cases h
                      rw [if_neg g370] at h
                      refine am_ev_st 9 (f' := (243, [(6, .int (1 : Int32)), (5, .int (1 : Int32)), (4, .int r7), (0, .ref 19), (1, .int v1_6), (2, .int v2_6), (3, .int v3_6)], [.int (bl_6 (v1_6).toNatClampNeg), .int (v3_6 + (1 : Int32)), .int v1_6, .ref 19], (W9 N C E F P Q T (gc, gb) U H (br_6, bl_6) O_369 J_6 (vf_6, vu_6, vx_6) Y Z O9), k, n)) (g := True ∧ True ∧ True ∧ True ∧ True ∧ True ∧ True ∧ True ∧ vp_in (v1_6) 96 ∧ True) (by with_unfolding_all rfl) ⟨trivial, trivial, trivial, trivial, trivial, trivial, trivial, trivial, g370, trivial⟩ ?_
                      replace h := Option.bind_eq_some_iff.mp h
                      obtain ⟨O_371, hc371, h⟩ := h
                      try dsimp only at h
                      refine am_ev_call (.invokevirtual 117) 90 6 869 [.ref 19, .int v1_6, .int (v3_6 + (1 : Int32)), .int (bl_6 (v1_6).toNatClampNeg)] [] rfl rfl rfl rfl (ok_fm_putAll hc371 D (by omega)) rfl ?_
                      refine am_ev_st 2 (f' := (248, [(6, .int (1 : Int32)), (5, .int (1 : Int32)), (4, .int r7), (0, .ref 19), (1, .int v1_6), (2, .int v2_6), (3, .int v3_6)], [.int v1_6, .ref 19], (W9 N C E F P Q T (gc, gb) U H (br_6, bl_6) O_371 J_6 (vf_6, vu_6, vx_6) Y Z O9), k, n)) (g := True ∧ True ∧ True) (by with_unfolding_all rfl) ⟨trivial, trivial, trivial⟩ ?_
                      replace h := Option.bind_eq_some_iff.mp h
                      obtain ⟨⟨r372, B_372, J_372, V_372⟩, hc372, h⟩ := h
                      try dsimp only at h
                      refine am_ev_call (.invokevirtual 125) 93 2 885 [.ref 19, .int v1_6] [] rfl rfl rfl rfl (ok_fm_take hc372 D (by omega)) rfl ?_
                      refine am_ev_st 1 (f' := am_br ((am_bz r372) ≠ 0) 255 251 [(6, .int (1 : Int32)), (5, .int (1 : Int32)), (4, .int r7), (0, .ref 19), (1, .int v1_6), (2, .int v2_6), (3, .int v3_6)] [] (W9 N C E F P Q T (gc, gb) U H B_372 O_371 J_372 V_372 Y Z O9) k n) (g := True ∧ True) (by with_unfolding_all rfl) ⟨trivial, trivial⟩ ?_
                      by_cases c373 : (am_bz r372) ≠ 0
                      · rw [if_pos c373] at h
                        refine am_ev_pos c373 ?_
                        obtain ⟨vf_372, vu_372, vx_372⟩ := V_372
                        try dsimp only at h
                        refine am_ev_st 7 (f' := (13, [(6, .int (1 : Int32)), (5, .int (1 : Int32)), (4, .int r7), (0, .ref 19), (1, .int v1_6), (2, .int v2_6), (3, .int v3_6)], [], (W9 N C E F P Q T (gc, gb) U H B_372 O_371 J_372 (vf_372, (vu_372 + (1 : Int32)), vx_372) Y Z O9), k, n)) (g := True ∧ True ∧ True ∧ True ∧ True ∧ True ∧ True ∧ True) (by with_unfolding_all rfl) ⟨trivial, trivial, trivial, trivial, trivial, trivial, trivial, trivial⟩ ?_
                        refine am_ev_drop [3, 4, 5] rfl rfl ?_
                        exact ih h
                      · rw [if_neg c373] at h
                        refine am_ev_neg c373 ?_
                        cases h
                        exact am_ev_vret 0 0 0 rfl rfl rfl
                    · rw [if_neg c366] at h
                      refine am_ev_neg c366 ?_
                      refine am_ev_st 5 (f' := (137, [(6, .int (1 : Int32)), (5, .int (1 : Int32)), (4, .int r7), (0, .ref 19), (1, .int v1_6), (2, .int v2_6), (3, .int v3_6)], [.int (v3_6 + (1 : Int32)), .int v1_6, .ref 19], (W9 N C E F P Q T (gc, gb) U H B_6 O_365 J_6 (vf_6, vu_6, vx_6) Y Z O9), k, n)) (g := True ∧ True ∧ True ∧ True ∧ True ∧ True) (by with_unfolding_all rfl) ⟨trivial, trivial, trivial, trivial, trivial, trivial⟩ ?_
                      replace h := Option.bind_eq_some_iff.mp h
                      obtain ⟨r374, hc374, h⟩ := h
                      try dsimp only at h
                      refine am_ev_call (.invokevirtual 77) 82 4 853 [.ref 19, .int v1_6, .int (v3_6 + (1 : Int32))] [] rfl rfl rfl rfl (ok_fm_endOf hc374 D (by omega)) rfl ?_
                      refine am_ev_st 4 (f' := (146, [(7, .int r374), (6, .int (1 : Int32)), (5, .int (1 : Int32)), (4, .int r7), (0, .ref 19), (1, .int v1_6), (2, .int v2_6), (3, .int v3_6)], [.int r374, .int v1_6, .ref 19], (W9 N C E F P Q T (gc, gb) U H B_6 O_365 J_6 (vf_6, vu_6, vx_6) Y Z O9), k, n)) (g := True ∧ True ∧ True ∧ True ∧ True) (by with_unfolding_all rfl) ⟨trivial, trivial, trivial, trivial, trivial⟩ ?_
                      replace h := Option.bind_eq_some_iff.mp h
                      obtain ⟨r375, hc375, h⟩ := h
                      try dsimp only at h
                      refine am_ev_call (.invokevirtual 77) 82 4 853 [.ref 19, .int v1_6, .int r374] [] rfl rfl rfl rfl (ok_fm_endOf hc375 D (by omega)) rfl ?_
                      refine am_ev_st 4 (f' := (155, [(8, .int r375), (7, .int r374), (6, .int (1 : Int32)), (5, .int (1 : Int32)), (4, .int r7), (0, .ref 19), (1, .int v1_6), (2, .int v2_6), (3, .int v3_6)], [.int r375, .int v1_6, .ref 19], (W9 N C E F P Q T (gc, gb) U H B_6 O_365 J_6 (vf_6, vu_6, vx_6) Y Z O9), k, n)) (g := True ∧ True ∧ True ∧ True ∧ True) (by with_unfolding_all rfl) ⟨trivial, trivial, trivial, trivial, trivial⟩ ?_
                      replace h := Option.bind_eq_some_iff.mp h
                      obtain ⟨r376, hc376, h⟩ := h
                      try dsimp only at h
                      refine am_ev_call (.invokevirtual 77) 82 4 853 [.ref 19, .int v1_6, .int r375] [] rfl rfl rfl rfl (ok_fm_endOf hc376 D (by omega)) rfl ?_
                      refine am_ev_st 7 (f' := (166, [(9, .int r376), (8, .int r375), (7, .int r374), (6, .int (1 : Int32)), (5, .int (1 : Int32)), (4, .int r7), (0, .ref 19), (1, .int v1_6), (2, .int v2_6), (3, .int v3_6)], [.int (v3_6 - (1 : Int32)), .int (0 : Int32), .int v1_6, .ref 19], (W9 N C E F P Q T (gc, gb) U H B_6 O_365 J_6 (vf_6, vu_6, vx_6) Y Z O9), k, n)) (g := True ∧ True ∧ True ∧ True ∧ True ∧ True ∧ True ∧ True) (by with_unfolding_all rfl) ⟨trivial, trivial, trivial, trivial, trivial, trivial, trivial, trivial⟩ ?_
                      replace h := Option.bind_eq_some_iff.mp h
                      obtain ⟨O_377, hc377, h⟩ := h
                      try dsimp only at h
                      refine am_ev_call (.invokevirtual 117) 90 6 869 [.ref 19, .int v1_6, .int (0 : Int32), .int (v3_6 - (1 : Int32))] [] rfl rfl rfl rfl (ok_fm_putAll hc377 D (by omega)) rfl ?_
                      refine am_ev_st 7 (f' := (180, [(9, .int r376), (8, .int r375), (7, .int r374), (6, .int (1 : Int32)), (5, .int (1 : Int32)), (4, .int r7), (0, .ref 19), (1, .int v1_6), (2, .int v2_6), (3, .int v3_6)], [.int r376, .int r375, .int v1_6, .int r375, .int r374, .int v1_6, .ref 19], (W9 N C E F P Q T (gc, gb) U H B_6 O_377 J_6 (vf_6, vu_6, vx_6) Y Z O9), k, n)) (g := True ∧ True ∧ True ∧ True ∧ True ∧ True ∧ True ∧ True) (by with_unfolding_all rfl) ⟨trivial, trivial, trivial, trivial, trivial, trivial, trivial, trivial⟩ ?_
                      replace h := Option.bind_eq_some_iff.mp h
                      obtain ⟨⟨O_378, J_378⟩, hc378, h⟩ := h
                      try dsimp only at h
                      refine am_ev_call (.invokevirtual 121) 92 12 877 [.ref 19, .int v1_6, .int r374, .int r375, .int v1_6, .int r375, .int r376] [] rfl rfl rfl rfl (ok_fm_putFor hc378 D (by omega)) rfl ?_
                      obtain ⟨br_6, bl_6⟩ := B_6
                      try dsimp only at h
                      by_cases g379 : (v1_6 < 0 ∨ 96 ≤ (v1_6).toNatClampNeg)
                      · rw [if_pos g379] at h; cases h
                      rw [if_neg g379] at h
                      refine am_ev_st 7 (f' := (193, [(9, .int r376), (8, .int r375), (7, .int r374), (6, .int (1 : Int32)), (5, .int (1 : Int32)), (4, .int r7), (0, .ref 19), (1, .int v1_6), (2, .int v2_6), (3, .int v3_6)], [.int (bl_6 (v1_6).toNatClampNeg), .int r376, .int v1_6, .ref 19], (W9 N C E F P Q T (gc, gb) U H (br_6, bl_6) O_378 J_378 (vf_6, vu_6, vx_6) Y Z O9), k, n)) (g := True ∧ True ∧ True ∧ True ∧ True ∧ True ∧ vp_in (v1_6) 96 ∧ True) (by with_unfolding_all rfl) ⟨trivial, trivial, trivial, trivial, trivial, trivial, g379, trivial⟩ ?_
                      replace h := Option.bind_eq_some_iff.mp h
                      obtain ⟨O_380, hc380, h⟩ := h
                      try dsimp only at h
                      refine am_ev_call (.invokevirtual 117) 90 6 869 [.ref 19, .int v1_6, .int r376, .int (bl_6 (v1_6).toNatClampNeg)] [] rfl rfl rfl rfl (ok_fm_putAll hc380 D (by omega)) rfl ?_
                      refine am_ev_st 3 (f' := (248, [(9, .int r376), (8, .int r375), (7, .int r374), (6, .int (1 : Int32)), (5, .int (1 : Int32)), (4, .int r7), (0, .ref 19), (1, .int v1_6), (2, .int v2_6), (3, .int v3_6)], [.int v1_6, .ref 19], (W9 N C E F P Q T (gc, gb) U H (br_6, bl_6) O_380 J_378 (vf_6, vu_6, vx_6) Y Z O9), k, n)) (g := True ∧ True ∧ True ∧ True) (by with_unfolding_all rfl) ⟨trivial, trivial, trivial, trivial⟩ ?_
                      replace h := Option.bind_eq_some_iff.mp h
                      obtain ⟨⟨r381, B_381, J_381, V_381⟩, hc381, h⟩ := h
                      try dsimp only at h
                      refine am_ev_call (.invokevirtual 125) 93 2 885 [.ref 19, .int v1_6] [] rfl rfl rfl rfl (ok_fm_take hc381 D (by omega)) rfl ?_
                      refine am_ev_st 1 (f' := am_br ((am_bz r381) ≠ 0) 255 251 [(9, .int r376), (8, .int r375), (7, .int r374), (6, .int (1 : Int32)), (5, .int (1 : Int32)), (4, .int r7), (0, .ref 19), (1, .int v1_6), (2, .int v2_6), (3, .int v3_6)] [] (W9 N C E F P Q T (gc, gb) U H B_381 O_380 J_381 V_381 Y Z O9) k n) (g := True ∧ True) (by with_unfolding_all rfl) ⟨trivial, trivial⟩ ?_
                      by_cases c382 : (am_bz r381) ≠ 0
                      · rw [if_pos c382] at h
                        refine am_ev_pos c382 ?_
                        obtain ⟨vf_381, vu_381, vx_381⟩ := V_381
                        try dsimp only at h
                        refine am_ev_st 7 (f' := (13, [(9, .int r376), (8, .int r375), (7, .int r374), (6, .int (1 : Int32)), (5, .int (1 : Int32)), (4, .int r7), (0, .ref 19), (1, .int v1_6), (2, .int v2_6), (3, .int v3_6)], [], (W9 N C E F P Q T (gc, gb) U H B_381 O_380 J_381 (vf_381, (vu_381 + (1 : Int32)), vx_381) Y Z O9), k, n)) (g := True ∧ True ∧ True ∧ True ∧ True ∧ True ∧ True ∧ True) (by with_unfolding_all rfl) ⟨trivial, trivial, trivial, trivial, trivial, trivial, trivial, trivial⟩ ?_
                        refine am_ev_drop [6, 7, 8] rfl rfl ?_
                        exact ih h
                      · rw [if_neg c382] at h
                        refine am_ev_neg c382 ?_
                        cases h
                        exact am_ev_vret 0 0 0 rfl rfl rfl
                  · rw [if_neg c364] at h
                    refine am_ev_neg c364 ?_
                    refine am_ev_st 3 (f' := (122, [(6, .int (1 : Int32)), (5, .int (1 : Int32)), (4, .int r7), (0, .ref 19), (1, .int v1_6), (2, .int v2_6), (3, .int v3_6)], [], (W9 N C E F P Q T (gc, gb) U H B_6 O_6 J_6 (vf_6, vu_6, (3 : Int32)) Y Z O9), k, n)) (g := True ∧ True ∧ True ∧ True) (by with_unfolding_all rfl) ⟨trivial, trivial, trivial, trivial⟩ ?_
                    cases h
                    exact am_ev_vret 0 0 0 rfl rfl rfl
                · rw [if_neg c363] at h
                  refine am_ev_neg c363 ?_
                  cases h
                  exact am_ev_vret 0 0 0 rfl rfl rfl
set_option maxHeartbeats 4000000 in
set_option maxRecDepth 100000 in
theorem ok_fm_toHead {fl : Nat} {N : cN} {C : cC} {E : cE} {F : cF} {P : cP} {Q : cQ} {T : cT} {G : cG} {U : cU} {H : cH} {B : cB} {O : cO} {J : cJ} {V : cV} {Y : cY} {Z : cZ} {O9 : cO9} {k n : Nat} {p1 : Int32} {B' : cB} {O' : cO} {J' : cJ} {V' : cV} (h : fm_toHead fl G B O J V p1 = some (B', O', J', V')) (D : Nat) (hD : 4 ≤ D) : am_Call D 94 [.ref 19, .int p1] (W9 N C E F P Q T G U H B O J V Y Z O9) k n (.inl none, W9 N C E F P Q T G U H B' O' J' V' Y Z O9, k, n) := by
  unfold fm_toHead at h
  obtain ⟨D, rfl⟩ : ∃ D', D = D' + 1 := ⟨D - 1, by omega⟩
  have hD : 3 ≤ D := by omega
  refine am_call_run (by decide) (by decide) rfl (Nat.le_of_ble_eq_true rfl) (by decide) (L := [(0, .ref 19), (1, .int p1)]) rfl ?_
  obtain ⟨vf, vu, vx⟩ := V
  try dsimp only at h
  refine am_ev_st 3 (f' := am_br (vx ≠ 0) 11 4 [(0, .ref 19), (1, .int p1)] [] (W9 N C E F P Q T G U H B O J (vf, vu, vx) Y Z O9) k n) (g := True ∧ True ∧ True ∧ True) (by with_unfolding_all rfl) ⟨trivial, trivial, trivial, trivial⟩ ?_
  by_cases c1 : vx ≠ 0
  · rw [if_pos c1] at h
    refine am_ev_pos c1 ?_
    refine am_ev_st 2 (f' := (13, [(2, .int (0 : Int32)), (0, .ref 19), (1, .int p1)], [], (W9 N C E F P Q T G U H B O J (vf, vu, vx) Y Z O9), k, n)) (g := True ∧ True ∧ True) (by with_unfolding_all rfl) ⟨trivial, trivial, trivial⟩ ?_
    refine am_ev_drop [1, 2, 0] rfl rfl ?_
    exact ok_lp_fm_toHead_13 h D hD
  · rw [if_neg c1] at h
    refine am_ev_neg c1 ?_
    refine am_ev_st 3 (f' := (13, [(2, .int (1 : Int32)), (0, .ref 19), (1, .int p1)], [], (W9 N C E F P Q T G U H B O J (vf, vu, vx) Y Z O9), k, n)) (g := True ∧ True ∧ True ∧ True) (by with_unfolding_all rfl) ⟨trivial, trivial, trivial, trivial⟩ ?_
    refine am_ev_drop [1, 2, 0] rfl rfl ?_
    exact ok_lp_fm_toHead_13 h D hD
