def fN_fill (N : cN) (p1 p2 p3 p4 : Int32) : Option (cN) :=
  match N with
  | (nK, nL, nR, nS, nD, cap, mt, le, en) =>
  if p1 < 0 then
  (some N)
  else
  if p1 < (Int32.ofNat cap) then
  (if (p1 < 0 ∨ cap ≤ (p1).toNatClampNeg) then none else
  if (p1 < 0 ∨ cap ≤ (p1).toNatClampNeg) then none else
  if (p1 < 0 ∨ cap ≤ (p1).toNatClampNeg) then none else
  if (p1 < 0 ∨ cap ≤ (p1).toNatClampNeg) then none else
  if (p1 < 0 ∨ cap ≤ (p1).toNatClampNeg) then none else
  if p4 = (-1 : Int32) then
  (some ((upd nK (p1).toNatClampNeg p2), (upd nL (p1).toNatClampNeg p3), (upd nR (p1).toNatClampNeg p4), (upd nS (p1).toNatClampNeg (1 : Int32)), (upd nD (p1).toNatClampNeg (1 : Int32)), cap, mt, le, en))
  else
  if p3 < 0 then
  (some ((upd nK (p1).toNatClampNeg p2), (upd nL (p1).toNatClampNeg p3), (upd nR (p1).toNatClampNeg p4), (upd nS (p1).toNatClampNeg (1 : Int32)), (upd nD (p1).toNatClampNeg (1 : Int32)), cap, mt, le, en))
  else
  if (Int32.ofNat cap) ≤ p3 then
  (some ((upd nK (p1).toNatClampNeg p2), (upd nL (p1).toNatClampNeg p3), (upd nR (p1).toNatClampNeg p4), (upd nS (p1).toNatClampNeg (1 : Int32)), (upd nD (p1).toNatClampNeg (1 : Int32)), cap, mt, le, en))
  else
  if p4 < 0 then
  (some ((upd nK (p1).toNatClampNeg p2), (upd nL (p1).toNatClampNeg p3), (upd nR (p1).toNatClampNeg p4), (upd nS (p1).toNatClampNeg (1 : Int32)), (upd nD (p1).toNatClampNeg (1 : Int32)), cap, mt, le, en))
  else
  if (Int32.ofNat cap) ≤ p4 then
  (some ((upd nK (p1).toNatClampNeg p2), (upd nL (p1).toNatClampNeg p3), (upd nR (p1).toNatClampNeg p4), (upd nS (p1).toNatClampNeg (1 : Int32)), (upd nD (p1).toNatClampNeg (1 : Int32)), cap, mt, le, en))
  else
  if (p3 < 0 ∨ cap ≤ (p3).toNatClampNeg) then none else
  if (p4 < 0 ∨ cap ≤ (p4).toNatClampNeg) then none else
  if (p1 < 0 ∨ cap ≤ (p1).toNatClampNeg) then none else
  if (p3 < 0 ∨ cap ≤ (p3).toNatClampNeg) then none else
  if (p4 < 0 ∨ cap ≤ (p4).toNatClampNeg) then none else
  if (p1 < 0 ∨ cap ≤ (p1).toNatClampNeg) then none else
  some ((upd nK (p1).toNatClampNeg p2), (upd nL (p1).toNatClampNeg p3), (upd nR (p1).toNatClampNeg p4), (upd (upd nS (p1).toNatClampNeg (1 : Int32)) (p1).toNatClampNeg (((1 : Int32) + (((upd nS (p1).toNatClampNeg (1 : Int32))) (p3).toNatClampNeg)) + (((upd nS (p1).toNatClampNeg (1 : Int32))) (p4).toNatClampNeg))), (upd (upd nD (p1).toNatClampNeg (1 : Int32)) (p1).toNatClampNeg ((1 : Int32) + (if (((upd nD (p1).toNatClampNeg (1 : Int32))) (p3).toNatClampNeg) < (((upd nD (p1).toNatClampNeg (1 : Int32))) (p4).toNatClampNeg) then (((upd nD (p1).toNatClampNeg (1 : Int32))) (p4).toNatClampNeg) else (((upd nD (p1).toNatClampNeg (1 : Int32))) (p3).toNatClampNeg)))), cap, mt, le, en))
  else
  some N
set_option maxHeartbeats 4000000 in
set_option maxRecDepth 100000 in
theorem ok_fN_fill  {N : cN} {C : cC} {E : cE} {F : cF} {P : cP} {Q : cQ} {k n : Nat} {p1 p2 p3 p4 : Int32} {N' : cN} (h : fN_fill N p1 p2 p3 p4 = some N') (D : Nat) (hD : 1 ≤ D) : am_Call D 39 [.ref 1, .int p1, .int p2, .int p3, .int p4] (W9 N C E F P Q) k n (.inl none, W9 N' C E F P Q, k, n) := by
  unfold fN_fill at h
  obtain ⟨D, rfl⟩ : ∃ D', D = D' + 1 := ⟨D - 1, by omega⟩
  have hD : 0 ≤ D := by omega
  refine am_call_run (by decide) (by decide) rfl (Nat.le_of_ble_eq_true rfl) (by decide) (L := [(0, .ref 1), (1, .int p1), (2, .int p2), (3, .int p3), (4, .int p4)]) rfl ?_
  obtain ⟨nK, nL, nR, nS, nD, cap, mt, le, en⟩ := N
  try dsimp only at h
  refine am_ev_st 6 (f' := am_br (p1 < 0) 17 8 [(5, .int (Int32.ofNat cap)), (0, .ref 1), (1, .int p1), (2, .int p2), (3, .int p3), (4, .int p4)] [] (W9 (nK, nL, nR, nS, nD, cap, mt, le, en) C E F P Q) k n) (g := True ∧ True ∧ True ∧ True ∧ True ∧ True ∧ True) (by with_unfolding_all rfl) ⟨trivial, trivial, trivial, trivial, trivial, trivial, trivial⟩ ?_
  by_cases c1 : p1 < 0
  · rw [if_pos c1] at h
    refine am_ev_pos c1 ?_
    cases h
    exact am_ev_vret 0 0 0 rfl rfl rfl
  · rw [if_neg c1] at h
    refine am_ev_neg c1 ?_
    refine am_ev_st 3 (f' := am_br (p1 < (Int32.ofNat cap)) 18 14 [(5, .int (Int32.ofNat cap)), (0, .ref 1), (1, .int p1), (2, .int p2), (3, .int p3), (4, .int p4)] [] (W9 (nK, nL, nR, nS, nD, cap, mt, le, en) C E F P Q) k n) (g := True ∧ True ∧ True ∧ True) (by with_unfolding_all rfl) ⟨trivial, trivial, trivial, trivial⟩ ?_
    by_cases c2 : p1 < (Int32.ofNat cap)
    · rw [if_pos c2] at h
      refine am_ev_pos c2 ?_
      by_cases g3 : (p1 < 0 ∨ cap ≤ (p1).toNatClampNeg)
      · rw [if_pos g3] at h; cases h
      rw [if_neg g3] at h
      by_cases g4 : (p1 < 0 ∨ cap ≤ (p1).toNatClampNeg)
      · rw [if_pos g4] at h; cases h
      rw [if_neg g4] at h
      by_cases g5 : (p1 < 0 ∨ cap ≤ (p1).toNatClampNeg)
      · rw [if_pos g5] at h; cases h
      rw [if_neg g5] at h
      by_cases g6 : (p1 < 0 ∨ cap ≤ (p1).toNatClampNeg)
      · rw [if_pos g6] at h; cases h
      rw [if_neg g6] at h
      by_cases g7 : (p1 < 0 ∨ cap ≤ (p1).toNatClampNeg)
      · rw [if_pos g7] at h; cases h
      rw [if_neg g7] at h
      refine am_ev_st 28 (f' := am_br (p4 = (-1 : Int32)) 128 57 [(5, .int (Int32.ofNat cap)), (0, .ref 1), (1, .int p1), (2, .int p2), (3, .int p3), (4, .int p4)] [] (W9 ((upd nK (p1).toNatClampNeg p2), (upd nL (p1).toNatClampNeg p3), (upd nR (p1).toNatClampNeg p4), (upd nS (p1).toNatClampNeg (1 : Int32)), (upd nD (p1).toNatClampNeg (1 : Int32)), cap, mt, le, en) C E F P Q) k n) (g := True ∧ True ∧ True ∧ True ∧ vp_in (p1) cap ∧ True ∧ True ∧ True ∧ True ∧ vp_in (p1) cap ∧ True ∧ True ∧ True ∧ True ∧ vp_in (p1) cap ∧ True ∧ True ∧ True ∧ True ∧ vp_in (p1) cap ∧ True ∧ True ∧ True ∧ True ∧ vp_in (p1) cap ∧ True ∧ True ∧ True ∧ True) (by with_unfolding_all rfl) ⟨trivial, trivial, trivial, trivial, g3, trivial, trivial, trivial, trivial, g4, trivial, trivial, trivial, trivial, g5, trivial, trivial, trivial, trivial, g6, trivial, trivial, trivial, trivial, g7, trivial, trivial, trivial, trivial⟩ ?_
      by_cases c8 : p4 = (-1 : Int32)
      · rw [if_pos c8] at h
        refine am_ev_pos c8 ?_
        cases h
        exact am_ev_vret 0 0 0 rfl rfl rfl
      · rw [if_neg c8] at h
        refine am_ev_neg c8 ?_
        refine am_ev_st 2 (f' := am_br (p3 < 0) 128 61 [(5, .int (Int32.ofNat cap)), (0, .ref 1), (1, .int p1), (2, .int p2), (3, .int p3), (4, .int p4)] [] (W9 ((upd nK (p1).toNatClampNeg p2), (upd nL (p1).toNatClampNeg p3), (upd nR (p1).toNatClampNeg p4), (upd nS (p1).toNatClampNeg (1 : Int32)), (upd nD (p1).toNatClampNeg (1 : Int32)), cap, mt, le, en) C E F P Q) k n) (g := True ∧ True ∧ True) (by with_unfolding_all rfl) ⟨trivial, trivial, trivial⟩ ?_
        by_cases c9 : p3 < 0
        · rw [if_pos c9] at h
          refine am_ev_pos c9 ?_
          cases h
          exact am_ev_vret 0 0 0 rfl rfl rfl
        · rw [if_neg c9] at h
          refine am_ev_neg c9 ?_
          refine am_ev_st 3 (f' := am_br ((Int32.ofNat cap) ≤ p3) 128 67 [(5, .int (Int32.ofNat cap)), (0, .ref 1), (1, .int p1), (2, .int p2), (3, .int p3), (4, .int p4)] [] (W9 ((upd nK (p1).toNatClampNeg p2), (upd nL (p1).toNatClampNeg p3), (upd nR (p1).toNatClampNeg p4), (upd nS (p1).toNatClampNeg (1 : Int32)), (upd nD (p1).toNatClampNeg (1 : Int32)), cap, mt, le, en) C E F P Q) k n) (g := True ∧ True ∧ True ∧ True) (by with_unfolding_all rfl) ⟨trivial, trivial, trivial, trivial⟩ ?_
          by_cases c10 : (Int32.ofNat cap) ≤ p3
          · rw [if_pos c10] at h
            refine am_ev_pos c10 ?_
            cases h
            exact am_ev_vret 0 0 0 rfl rfl rfl
          · rw [if_neg c10] at h
            refine am_ev_neg c10 ?_
            refine am_ev_st 2 (f' := am_br (p4 < 0) 128 72 [(5, .int (Int32.ofNat cap)), (0, .ref 1), (1, .int p1), (2, .int p2), (3, .int p3), (4, .int p4)] [] (W9 ((upd nK (p1).toNatClampNeg p2), (upd nL (p1).toNatClampNeg p3), (upd nR (p1).toNatClampNeg p4), (upd nS (p1).toNatClampNeg (1 : Int32)), (upd nD (p1).toNatClampNeg (1 : Int32)), cap, mt, le, en) C E F P Q) k n) (g := True ∧ True ∧ True) (by with_unfolding_all rfl) ⟨trivial, trivial, trivial⟩ ?_
            by_cases c11 : p4 < 0
            · rw [if_pos c11] at h
              refine am_ev_pos c11 ?_
              cases h
              exact am_ev_vret 0 0 0 rfl rfl rfl
            · rw [if_neg c11] at h
              refine am_ev_neg c11 ?_
              refine am_ev_st 3 (f' := am_br ((Int32.ofNat cap) ≤ p4) 128 79 [(5, .int (Int32.ofNat cap)), (0, .ref 1), (1, .int p1), (2, .int p2), (3, .int p3), (4, .int p4)] [] (W9 ((upd nK (p1).toNatClampNeg p2), (upd nL (p1).toNatClampNeg p3), (upd nR (p1).toNatClampNeg p4), (upd nS (p1).toNatClampNeg (1 : Int32)), (upd nD (p1).toNatClampNeg (1 : Int32)), cap, mt, le, en) C E F P Q) k n) (g := True ∧ True ∧ True ∧ True) (by with_unfolding_all rfl) ⟨trivial, trivial, trivial, trivial⟩ ?_
              by_cases c12 : (Int32.ofNat cap) ≤ p4
              · rw [if_pos c12] at h
                refine am_ev_pos c12 ?_
                cases h
                exact am_ev_vret 0 0 0 rfl rfl rfl
              · rw [if_neg c12] at h
                refine am_ev_neg c12 ?_
                by_cases g13 : (p3 < 0 ∨ cap ≤ (p3).toNatClampNeg)
                · rw [if_pos g13] at h; cases h
                rw [if_neg g13] at h
                by_cases g14 : (p4 < 0 ∨ cap ≤ (p4).toNatClampNeg)
                · rw [if_pos g14] at h; cases h
                rw [if_neg g14] at h
                by_cases g15 : (p1 < 0 ∨ cap ≤ (p1).toNatClampNeg)
                · rw [if_pos g15] at h; cases h
                rw [if_neg g15] at h
                by_cases g16 : (p3 < 0 ∨ cap ≤ (p3).toNatClampNeg)
                · rw [if_pos g16] at h; cases h
                rw [if_neg g16] at h
                by_cases g17 : (p4 < 0 ∨ cap ≤ (p4).toNatClampNeg)
                · rw [if_pos g17] at h; cases h
                rw [if_neg g17] at h
                by_cases g18 : (p1 < 0 ∨ cap ≤ (p1).toNatClampNeg)
                · rw [if_pos g18] at h; cases h
                rw [if_neg g18] at h
                refine am_ev_st 30 (f' := (128, [(5, .int (Int32.ofNat cap)), (0, .ref 1), (1, .int p1), (2, .int p2), (3, .int p3), (4, .int p4)], [], (W9 ((upd nK (p1).toNatClampNeg p2), (upd nL (p1).toNatClampNeg p3), (upd nR (p1).toNatClampNeg p4), (upd (upd nS (p1).toNatClampNeg (1 : Int32)) (p1).toNatClampNeg (((1 : Int32) + (((upd nS (p1).toNatClampNeg (1 : Int32))) (p3).toNatClampNeg)) + (((upd nS (p1).toNatClampNeg (1 : Int32))) (p4).toNatClampNeg))), (upd (upd nD (p1).toNatClampNeg (1 : Int32)) (p1).toNatClampNeg ((1 : Int32) + (if (((upd nD (p1).toNatClampNeg (1 : Int32))) (p3).toNatClampNeg) < (((upd nD (p1).toNatClampNeg (1 : Int32))) (p4).toNatClampNeg) then (((upd nD (p1).toNatClampNeg (1 : Int32))) (p4).toNatClampNeg) else (((upd nD (p1).toNatClampNeg (1 : Int32))) (p3).toNatClampNeg)))), cap, mt, le, en) C E F P Q), k, n)) (g := True ∧ True ∧ True ∧ True ∧ True ∧ True ∧ True ∧ vp_in (p3) cap ∧ True ∧ True ∧ True ∧ True ∧ vp_in (p4) cap ∧ True ∧ vp_in (p1) cap ∧ True ∧ True ∧ True ∧ True ∧ True ∧ True ∧ True ∧ vp_in (p3) cap ∧ True ∧ True ∧ True ∧ vp_in (p4) cap ∧ True ∧ True ∧ vp_in (p1) cap ∧ True) (by with_unfolding_all rfl) ⟨trivial, trivial, trivial, trivial, trivial, trivial, trivial, g13, trivial, trivial, trivial, trivial, g14, trivial, g15, trivial, trivial, trivial, trivial, trivial, trivial, trivial, g16, trivial, trivial, trivial, g17, trivial, trivial, g18, trivial⟩ ?_
                cases h
                exact am_ev_vret 0 0 0 rfl rfl rfl
    · rw [if_neg c2] at h
      refine am_ev_neg c2 ?_
      cases h
      exact am_ev_vret 0 0 0 rfl rfl rfl
def fN_addTerm (N : cN) (p1 p2 p3 : Int32) : Option (Int32 × cN) :=
  match N with
  | (nK, nL, nR, nS, nD, cap, mt, le, en) =>
  if mt < (120 : Int32) then
  ((fN_fill N mt p1 p2 p3).bind fun z2 =>
  match z2 with
  | (N_2) =>
  match N_2 with
  | (nK_2, nL_2, nR_2, nS_2, nD_2, cap_2, mt_2, le_2, en_2) =>
  some (((mt_2 + (1 : Int32)) - (1 : Int32)), (nK_2, nL_2, nR_2, nS_2, nD_2, cap_2, (mt_2 + (1 : Int32)), le_2, en_2)))
  else
  some ((-1 : Int32), N)
set_option maxHeartbeats 4000000 in
set_option maxRecDepth 100000 in
theorem ok_fN_addTerm  {N : cN} {C : cC} {E : cE} {F : cF} {P : cP} {Q : cQ} {k n : Nat} {p1 p2 p3 : Int32} {rv : Int32} {N' : cN} (h : fN_addTerm N p1 p2 p3 = some (rv, N')) (D : Nat) (hD : 2 ≤ D) : am_Call D 35 [.ref 1, .int p1, .int p2, .int p3] (W9 N C E F P Q) k n (.inl (some (.int rv)), W9 N' C E F P Q, k, n) := by
  unfold fN_addTerm at h
  obtain ⟨D, rfl⟩ : ∃ D', D = D' + 1 := ⟨D - 1, by omega⟩
  have hD : 1 ≤ D := by omega
  refine am_call_run (by decide) (by decide) rfl (Nat.le_of_ble_eq_true rfl) (by decide) (L := [(0, .ref 1), (1, .int p1), (2, .int p2), (3, .int p3)]) rfl ?_
  obtain ⟨nK, nL, nR, nS, nD, cap, mt, le, en⟩ := N
  try dsimp only at h
  refine am_ev_st 4 (f' := am_br (mt < (120 : Int32)) 11 6 [(0, .ref 1), (1, .int p1), (2, .int p2), (3, .int p3)] [] (W9 (nK, nL, nR, nS, nD, cap, mt, le, en) C E F P Q) k n) (g := True ∧ True ∧ True ∧ True ∧ True) (by with_unfolding_all rfl) ⟨trivial, trivial, trivial, trivial, trivial⟩ ?_
  by_cases c1 : mt < (120 : Int32)
  · rw [if_pos c1] at h
    refine am_ev_pos c1 ?_
    refine am_ev_st 6 (f' := (19, [(0, .ref 1), (1, .int p1), (2, .int p2), (3, .int p3)], [.int p3, .int p2, .int p1, .int mt, .ref 1], (W9 (nK, nL, nR, nS, nD, cap, mt, le, en) C E F P Q), k, n)) (g := True ∧ True ∧ True ∧ True ∧ True ∧ True ∧ True) (by with_unfolding_all rfl) ⟨trivial, trivial, trivial, trivial, trivial, trivial, trivial⟩ ?_
    replace h := Option.bind_eq_some_iff.mp h
    obtain ⟨N_2, hc2, h⟩ := h
    try dsimp only at h
    refine am_ev_call (.invokevirtual 50) 39 8 215 [.ref 1, .int mt, .int p1, .int p2, .int p3] [] rfl rfl rfl rfl (ok_fN_fill hc2 D (by omega)) rfl ?_
    obtain ⟨nK_2, nL_2, nR_2, nS_2, nD_2, cap_2, mt_2, le_2, en_2⟩ := N_2
    try dsimp only at h
    refine am_ev_st 10 (f' := (38, [(0, .ref 1), (1, .int p1), (2, .int p2), (3, .int p3)], [.int ((mt_2 + (1 : Int32)) - (1 : Int32))], (W9 (nK_2, nL_2, nR_2, nS_2, nD_2, cap_2, (mt_2 + (1 : Int32)), le_2, en_2) C E F P Q), k, n)) (g := True ∧ True ∧ True ∧ True ∧ True ∧ True ∧ True ∧ True ∧ True ∧ True ∧ True) (by with_unfolding_all rfl) ⟨trivial, trivial, trivial, trivial, trivial, trivial, trivial, trivial, trivial, trivial, trivial⟩ ?_
    cases h
    exact am_ev_ret 0 0 0 rfl .int rfl rfl rfl
  · rw [if_neg c1] at h
    refine am_ev_neg c1 ?_
    refine am_ev_st 1 (f' := (10, [(0, .ref 1), (1, .int p1), (2, .int p2), (3, .int p3)], [.int (-1 : Int32)], (W9 (nK, nL, nR, nS, nD, cap, mt, le, en) C E F P Q), k, n)) (g := True ∧ True) (by with_unfolding_all rfl) ⟨trivial, trivial⟩ ?_
    cases h
    exact am_ev_ret 0 0 0 rfl .int rfl rfl rfl
def fJ_hasParts (p1 : Int32) : Option (Bool) :=
  if p1 = (2 : Int32) then
  (some true)
  else
  if p1 = (3 : Int32) then
  (some true)
  else
  if p1 ≠ (4 : Int32) then
  (some false)
  else
  some true
set_option maxHeartbeats 4000000 in
set_option maxRecDepth 100000 in
theorem ok_fJ_hasParts  {N : cN} {C : cC} {E : cE} {F : cF} {P : cP} {Q : cQ} {k n : Nat} {p1 : Int32} {rv : Bool} (h : fJ_hasParts p1 = some rv) (D : Nat) (hD : 1 ≤ D) : am_Call D 69 [.int p1] (W9 N C E F P Q) k n (.inl (some (.int (am_bz rv))), W9 N C E F P Q, k, n) := by
  unfold fJ_hasParts at h
  obtain ⟨D, rfl⟩ : ∃ D', D = D' + 1 := ⟨D - 1, by omega⟩
  have hD : 0 ≤ D := by omega
  refine am_call_run (by decide) (by decide) rfl (Nat.le_of_ble_eq_true rfl) (by decide) (L := [(0, .int p1)]) rfl ?_
  refine am_ev_st 3 (f' := am_br (p1 = (2 : Int32)) 15 2 [(0, .int p1)] [] (W9 N C E F P Q) k n) (g := True ∧ True ∧ True ∧ True) (by with_unfolding_all rfl) ⟨trivial, trivial, trivial, trivial⟩ ?_
  by_cases c1 : p1 = (2 : Int32)
  · rw [if_pos c1] at h
    refine am_ev_pos c1 ?_
    refine am_ev_st 2 (f' := (20, [(0, .int p1)], [.int (1 : Int32)], (W9 N C E F P Q), k, n)) (g := True ∧ True ∧ True) (by with_unfolding_all rfl) ⟨trivial, trivial, trivial⟩ ?_
    cases h
    exact am_ev_ret 0 0 0 rfl .boolean rfl am_n1 rfl
  · rw [if_neg c1] at h
    refine am_ev_neg c1 ?_
    refine am_ev_st 3 (f' := am_br (p1 = (3 : Int32)) 15 7 [(0, .int p1)] [] (W9 N C E F P Q) k n) (g := True ∧ True ∧ True ∧ True) (by with_unfolding_all rfl) ⟨trivial, trivial, trivial, trivial⟩ ?_
    by_cases c2 : p1 = (3 : Int32)
    · rw [if_pos c2] at h
      refine am_ev_pos c2 ?_
      refine am_ev_st 2 (f' := (20, [(0, .int p1)], [.int (1 : Int32)], (W9 N C E F P Q), k, n)) (g := True ∧ True ∧ True) (by with_unfolding_all rfl) ⟨trivial, trivial, trivial⟩ ?_
      cases h
      exact am_ev_ret 0 0 0 rfl .boolean rfl am_n1 rfl
    · rw [if_neg c2] at h
      refine am_ev_neg c2 ?_
      refine am_ev_st 3 (f' := am_br (p1 ≠ (4 : Int32)) 19 12 [(0, .int p1)] [] (W9 N C E F P Q) k n) (g := True ∧ True ∧ True ∧ True) (by with_unfolding_all rfl) ⟨trivial, trivial, trivial, trivial⟩ ?_
      by_cases c3 : p1 ≠ (4 : Int32)
      · rw [if_pos c3] at h
        refine am_ev_pos c3 ?_
        refine am_ev_st 1 (f' := (20, [(0, .int p1)], [.int (0 : Int32)], (W9 N C E F P Q), k, n)) (g := True ∧ True) (by with_unfolding_all rfl) ⟨trivial, trivial⟩ ?_
        cases h
        exact am_ev_ret 0 0 0 rfl .boolean rfl am_n0 rfl
      · rw [if_neg c3] at h
        refine am_ev_neg c3 ?_
        refine am_ev_st 2 (f' := (20, [(0, .int p1)], [.int (1 : Int32)], (W9 N C E F P Q), k, n)) (g := True ∧ True ∧ True) (by with_unfolding_all rfl) ⟨trivial, trivial, trivial⟩ ?_
        cases h
        exact am_ev_ret 0 0 0 rfl .boolean rfl am_n1 rfl
def fN_isTerm (N : cN) (p1 : Int32) : Option (Bool) :=
  if p1 < 0 then
  (some false)
  else
  match N with
  | (nK, nL, nR, nS, nD, cap, mt, le, en) =>
  if mt ≤ p1 then
  (some false)
  else
  some true
set_option maxHeartbeats 4000000 in
set_option maxRecDepth 100000 in
theorem ok_fN_isTerm  {N : cN} {C : cC} {E : cE} {F : cF} {P : cP} {Q : cQ} {k n : Nat} {p1 : Int32} {rv : Bool} (h : fN_isTerm N p1 = some rv) (D : Nat) (hD : 1 ≤ D) : am_Call D 27 [.ref 1, .int p1] (W9 N C E F P Q) k n (.inl (some (.int (am_bz rv))), W9 N C E F P Q, k, n) := by
  unfold fN_isTerm at h
  obtain ⟨D, rfl⟩ : ∃ D', D = D' + 1 := ⟨D - 1, by omega⟩
  have hD : 0 ≤ D := by omega
  refine am_call_run (by decide) (by decide) rfl (Nat.le_of_ble_eq_true rfl) (by decide) (L := [(0, .ref 1), (1, .int p1)]) rfl ?_
  refine am_ev_st 2 (f' := am_br (p1 < 0) 16 1 [(0, .ref 1), (1, .int p1)] [] (W9 N C E F P Q) k n) (g := True ∧ True ∧ True) (by with_unfolding_all rfl) ⟨trivial, trivial, trivial⟩ ?_
  by_cases c1 : p1 < 0
  · rw [if_pos c1] at h
    refine am_ev_pos c1 ?_
    refine am_ev_st 1 (f' := (17, [(0, .ref 1), (1, .int p1)], [.int (0 : Int32)], (W9 N C E F P Q), k, n)) (g := True ∧ True) (by with_unfolding_all rfl) ⟨trivial, trivial⟩ ?_
    cases h
    exact am_ev_ret 0 0 0 rfl .boolean rfl am_n0 rfl
  · rw [if_neg c1] at h
    refine am_ev_neg c1 ?_
    obtain ⟨nK, nL, nR, nS, nD, cap, mt, le, en⟩ := N
    try dsimp only at h
    refine am_ev_st 4 (f' := am_br (mt ≤ p1) 16 9 [(0, .ref 1), (1, .int p1)] [] (W9 (nK, nL, nR, nS, nD, cap, mt, le, en) C E F P Q) k n) (g := True ∧ True ∧ True ∧ True ∧ True) (by with_unfolding_all rfl) ⟨trivial, trivial, trivial, trivial, trivial⟩ ?_
    by_cases c2 : mt ≤ p1
    · rw [if_pos c2] at h
      refine am_ev_pos c2 ?_
      refine am_ev_st 1 (f' := (17, [(0, .ref 1), (1, .int p1)], [.int (0 : Int32)], (W9 (nK, nL, nR, nS, nD, cap, mt, le, en) C E F P Q), k, n)) (g := True ∧ True) (by with_unfolding_all rfl) ⟨trivial, trivial⟩ ?_
      cases h
      exact am_ev_ret 0 0 0 rfl .boolean rfl am_n0 rfl
    · rw [if_neg c2] at h
      refine am_ev_neg c2 ?_
      refine am_ev_st 2 (f' := (17, [(0, .ref 1), (1, .int p1)], [.int (1 : Int32)], (W9 (nK, nL, nR, nS, nD, cap, mt, le, en) C E F P Q), k, n)) (g := True ∧ True ∧ True) (by with_unfolding_all rfl) ⟨trivial, trivial, trivial⟩ ?_
      cases h
      exact am_ev_ret 0 0 0 rfl .boolean rfl am_n1 rfl
def fC_isThere (C : cC) (p1 : Int32) : Option (Bool) :=
  if p1 < 0 then
  (some false)
  else
  match C with
  | (ct, cb, cm) =>
  if cm ≤ p1 then
  (some false)
  else
  if (16 : Int32) ≤ p1 then
  (some false)
  else
  some true
set_option maxHeartbeats 4000000 in
set_option maxRecDepth 100000 in
theorem ok_fC_isThere  {N : cN} {C : cC} {E : cE} {F : cF} {P : cP} {Q : cQ} {k n : Nat} {p1 : Int32} {rv : Bool} (h : fC_isThere C p1 = some rv) (D : Nat) (hD : 1 ≤ D) : am_Call D 3 [.ref 7, .int p1] (W9 N C E F P Q) k n (.inl (some (.int (am_bz rv))), W9 N C E F P Q, k, n) := by
  unfold fC_isThere at h
  obtain ⟨D, rfl⟩ : ∃ D', D = D' + 1 := ⟨D - 1, by omega⟩
  have hD : 0 ≤ D := by omega
  refine am_call_run (by decide) (by decide) rfl (Nat.le_of_ble_eq_true rfl) (by decide) (L := [(0, .ref 7), (1, .int p1)]) rfl ?_
  refine am_ev_st 2 (f' := am_br (p1 < 0) 22 1 [(0, .ref 7), (1, .int p1)] [] (W9 N C E F P Q) k n) (g := True ∧ True ∧ True) (by with_unfolding_all rfl) ⟨trivial, trivial, trivial⟩ ?_
  by_cases c1 : p1 < 0
  · rw [if_pos c1] at h
    refine am_ev_pos c1 ?_
    refine am_ev_st 1 (f' := (23, [(0, .ref 7), (1, .int p1)], [.int (0 : Int32)], (W9 N C E F P Q), k, n)) (g := True ∧ True) (by with_unfolding_all rfl) ⟨trivial, trivial⟩ ?_
    cases h
    exact am_ev_ret 0 0 0 rfl .boolean rfl am_n0 rfl
  · rw [if_neg c1] at h
    refine am_ev_neg c1 ?_
    obtain ⟨ct, cb, cm⟩ := C
    try dsimp only at h
    refine am_ev_st 4 (f' := am_br (cm ≤ p1) 22 9 [(0, .ref 7), (1, .int p1)] [] (W9 N (ct, cb, cm) E F P Q) k n) (g := True ∧ True ∧ True ∧ True ∧ True) (by with_unfolding_all rfl) ⟨trivial, trivial, trivial, trivial, trivial⟩ ?_
    by_cases c2 : cm ≤ p1
    · rw [if_pos c2] at h
      refine am_ev_pos c2 ?_
      refine am_ev_st 1 (f' := (23, [(0, .ref 7), (1, .int p1)], [.int (0 : Int32)], (W9 N (ct, cb, cm) E F P Q), k, n)) (g := True ∧ True) (by with_unfolding_all rfl) ⟨trivial, trivial⟩ ?_
      cases h
      exact am_ev_ret 0 0 0 rfl .boolean rfl am_n0 rfl
    · rw [if_neg c2] at h
      refine am_ev_neg c2 ?_
      refine am_ev_st 3 (f' := am_br ((16 : Int32) ≤ p1) 22 15 [(0, .ref 7), (1, .int p1)] [] (W9 N (ct, cb, cm) E F P Q) k n) (g := True ∧ True ∧ True ∧ True) (by with_unfolding_all rfl) ⟨trivial, trivial, trivial, trivial⟩ ?_
      by_cases c3 : (16 : Int32) ≤ p1
      · rw [if_pos c3] at h
        refine am_ev_pos c3 ?_
        refine am_ev_st 1 (f' := (23, [(0, .ref 7), (1, .int p1)], [.int (0 : Int32)], (W9 N (ct, cb, cm) E F P Q), k, n)) (g := True ∧ True) (by with_unfolding_all rfl) ⟨trivial, trivial⟩ ?_
        cases h
        exact am_ev_ret 0 0 0 rfl .boolean rfl am_n0 rfl
      · rw [if_neg c3] at h
        refine am_ev_neg c3 ?_
        refine am_ev_st 2 (f' := (23, [(0, .ref 7), (1, .int p1)], [.int (1 : Int32)], (W9 N (ct, cb, cm) E F P Q), k, n)) (g := True ∧ True ∧ True) (by with_unfolding_all rfl) ⟨trivial, trivial, trivial⟩ ?_
        cases h
        exact am_ev_ret 0 0 0 rfl .boolean rfl am_n1 rfl
def fN_sizeOf (N : cN) (p1 : Int32) : Option (Int32) :=
  if p1 < 0 then
  (some (-1 : Int32))
  else
  match N with
  | (nK, nL, nR, nS, nD, cap, mt, le, en) =>
  if (Int32.ofNat cap) ≤ p1 then
  (some (-1 : Int32))
  else
  if (p1 < 0 ∨ cap ≤ (p1).toNatClampNeg) then none else
  some (nS (p1).toNatClampNeg)
set_option maxHeartbeats 4000000 in
set_option maxRecDepth 100000 in
theorem ok_fN_sizeOf  {N : cN} {C : cC} {E : cE} {F : cF} {P : cP} {Q : cQ} {k n : Nat} {p1 : Int32} {rv : Int32} (h : fN_sizeOf N p1 = some rv) (D : Nat) (hD : 1 ≤ D) : am_Call D 31 [.ref 1, .int p1] (W9 N C E F P Q) k n (.inl (some (.int rv)), W9 N C E F P Q, k, n) := by
  unfold fN_sizeOf at h
  obtain ⟨D, rfl⟩ : ∃ D', D = D' + 1 := ⟨D - 1, by omega⟩
  have hD : 0 ≤ D := by omega
  refine am_call_run (by decide) (by decide) rfl (Nat.le_of_ble_eq_true rfl) (by decide) (L := [(0, .ref 1), (1, .int p1)]) rfl ?_
  refine am_ev_st 2 (f' := am_br (p1 < 0) 22 1 [(0, .ref 1), (1, .int p1)] [] (W9 N C E F P Q) k n) (g := True ∧ True ∧ True) (by with_unfolding_all rfl) ⟨trivial, trivial, trivial⟩ ?_
  by_cases c1 : p1 < 0
  · rw [if_pos c1] at h
    refine am_ev_pos c1 ?_
    refine am_ev_st 1 (f' := (23, [(0, .ref 1), (1, .int p1)], [.int (-1 : Int32)], (W9 N C E F P Q), k, n)) (g := True ∧ True) (by with_unfolding_all rfl) ⟨trivial, trivial⟩ ?_
    cases h
    exact am_ev_ret 0 0 0 rfl .int rfl rfl rfl
  · rw [if_neg c1] at h
    refine am_ev_neg c1 ?_
    obtain ⟨nK, nL, nR, nS, nD, cap, mt, le, en⟩ := N
    try dsimp only at h
    refine am_ev_st 5 (f' := am_br ((Int32.ofNat cap) ≤ p1) 22 10 [(0, .ref 1), (1, .int p1)] [] (W9 (nK, nL, nR, nS, nD, cap, mt, le, en) C E F P Q) k n) (g := True ∧ True ∧ True ∧ True ∧ True ∧ True) (by with_unfolding_all rfl) ⟨trivial, trivial, trivial, trivial, trivial, trivial⟩ ?_
    by_cases c2 : (Int32.ofNat cap) ≤ p1
    · rw [if_pos c2] at h
      refine am_ev_pos c2 ?_
      refine am_ev_st 1 (f' := (23, [(0, .ref 1), (1, .int p1)], [.int (-1 : Int32)], (W9 (nK, nL, nR, nS, nD, cap, mt, le, en) C E F P Q), k, n)) (g := True ∧ True) (by with_unfolding_all rfl) ⟨trivial, trivial⟩ ?_
      cases h
      exact am_ev_ret 0 0 0 rfl .int rfl rfl rfl
    · rw [if_neg c2] at h
      refine am_ev_neg c2 ?_
      by_cases g3 : (p1 < 0 ∨ cap ≤ (p1).toNatClampNeg)
      · rw [if_pos g3] at h; cases h
      rw [if_neg g3] at h
      refine am_ev_st 5 (f' := (23, [(0, .ref 1), (1, .int p1)], [.int (nS (p1).toNatClampNeg)], (W9 (nK, nL, nR, nS, nD, cap, mt, le, en) C E F P Q), k, n)) (g := True ∧ True ∧ True ∧ vp_in (p1) cap ∧ True ∧ True) (by with_unfolding_all rfl) ⟨trivial, trivial, trivial, g3, trivial, trivial⟩ ?_
      cases h
      exact am_ev_ret 0 0 0 rfl .int rfl rfl rfl
def fN_depthOf (N : cN) (p1 : Int32) : Option (Int32) :=
  if p1 < 0 then
  (some (-1 : Int32))
  else
  match N with
  | (nK, nL, nR, nS, nD, cap, mt, le, en) =>
  if (Int32.ofNat cap) ≤ p1 then
  (some (-1 : Int32))
  else
  if (p1 < 0 ∨ cap ≤ (p1).toNatClampNeg) then none else
  some (nD (p1).toNatClampNeg)
set_option maxHeartbeats 4000000 in
set_option maxRecDepth 100000 in
theorem ok_fN_depthOf  {N : cN} {C : cC} {E : cE} {F : cF} {P : cP} {Q : cQ} {k n : Nat} {p1 : Int32} {rv : Int32} (h : fN_depthOf N p1 = some rv) (D : Nat) (hD : 1 ≤ D) : am_Call D 32 [.ref 1, .int p1] (W9 N C E F P Q) k n (.inl (some (.int rv)), W9 N C E F P Q, k, n) := by
  unfold fN_depthOf at h
  obtain ⟨D, rfl⟩ : ∃ D', D = D' + 1 := ⟨D - 1, by omega⟩
  have hD : 0 ≤ D := by omega
  refine am_call_run (by decide) (by decide) rfl (Nat.le_of_ble_eq_true rfl) (by decide) (L := [(0, .ref 1), (1, .int p1)]) rfl ?_
  refine am_ev_st 2 (f' := am_br (p1 < 0) 22 1 [(0, .ref 1), (1, .int p1)] [] (W9 N C E F P Q) k n) (g := True ∧ True ∧ True) (by with_unfolding_all rfl) ⟨trivial, trivial, trivial⟩ ?_
  by_cases c1 : p1 < 0
  · rw [if_pos c1] at h
    refine am_ev_pos c1 ?_
    refine am_ev_st 1 (f' := (23, [(0, .ref 1), (1, .int p1)], [.int (-1 : Int32)], (W9 N C E F P Q), k, n)) (g := True ∧ True) (by with_unfolding_all rfl) ⟨trivial, trivial⟩ ?_
    cases h
    exact am_ev_ret 0 0 0 rfl .int rfl rfl rfl
  · rw [if_neg c1] at h
    refine am_ev_neg c1 ?_
    obtain ⟨nK, nL, nR, nS, nD, cap, mt, le, en⟩ := N
    try dsimp only at h
    refine am_ev_st 5 (f' := am_br ((Int32.ofNat cap) ≤ p1) 22 10 [(0, .ref 1), (1, .int p1)] [] (W9 (nK, nL, nR, nS, nD, cap, mt, le, en) C E F P Q) k n) (g := True ∧ True ∧ True ∧ True ∧ True ∧ True) (by with_unfolding_all rfl) ⟨trivial, trivial, trivial, trivial, trivial, trivial⟩ ?_
    by_cases c2 : (Int32.ofNat cap) ≤ p1
    · rw [if_pos c2] at h
      refine am_ev_pos c2 ?_
      refine am_ev_st 1 (f' := (23, [(0, .ref 1), (1, .int p1)], [.int (-1 : Int32)], (W9 (nK, nL, nR, nS, nD, cap, mt, le, en) C E F P Q), k, n)) (g := True ∧ True) (by with_unfolding_all rfl) ⟨trivial, trivial⟩ ?_
      cases h
      exact am_ev_ret 0 0 0 rfl .int rfl rfl rfl
    · rw [if_neg c2] at h
      refine am_ev_neg c2 ?_
      by_cases g3 : (p1 < 0 ∨ cap ≤ (p1).toNatClampNeg)
      · rw [if_pos g3] at h; cases h
      rw [if_neg g3] at h
      refine am_ev_st 5 (f' := (23, [(0, .ref 1), (1, .int p1)], [.int (nD (p1).toNatClampNeg)], (W9 (nK, nL, nR, nS, nD, cap, mt, le, en) C E F P Q), k, n)) (g := True ∧ True ∧ True ∧ vp_in (p1) cap ∧ True ∧ True) (by with_unfolding_all rfl) ⟨trivial, trivial, trivial, g3, trivial, trivial⟩ ?_
      cases h
      exact am_ev_ret 0 0 0 rfl .int rfl rfl rfl
def fN_mayJoin (N : cN) (p1 p2 : Int32) : Option (Bool) :=
  (fN_sizeOf N p1).bind fun z1 =>
  match z1 with
  | (r1) =>
  (fN_sizeOf N p2).bind fun z2 =>
  match z2 with
  | (r2) =>
  if (60 : Int32) < (((1 : Int32) + r1) + r2) then
  (some false)
  else
  (fN_depthOf N p1).bind fun z4 =>
  match z4 with
  | (r4) =>
  (fN_depthOf N p2).bind fun z5 =>
  match z5 with
  | (r5) =>
  if (12 : Int32) < ((1 : Int32) + (if r4 < r5 then r5 else r4)) then
  (some false)
  else
  some true
set_option maxHeartbeats 4000000 in
set_option maxRecDepth 100000 in
theorem ok_fN_mayJoin  {N : cN} {C : cC} {E : cE} {F : cF} {P : cP} {Q : cQ} {k n : Nat} {p1 p2 : Int32} {rv : Bool} (h : fN_mayJoin N p1 p2 = some rv) (D : Nat) (hD : 2 ≤ D) : am_Call D 33 [.ref 1, .int p1, .int p2] (W9 N C E F P Q) k n (.inl (some (.int (am_bz rv))), W9 N C E F P Q, k, n) := by
  unfold fN_mayJoin at h
  obtain ⟨D, rfl⟩ : ∃ D', D = D' + 1 := ⟨D - 1, by omega⟩
  have hD : 1 ≤ D := by omega
  refine am_call_run (by decide) (by decide) rfl (Nat.le_of_ble_eq_true rfl) (by decide) (L := [(0, .ref 1), (1, .int p1), (2, .int p2)]) rfl ?_
  refine am_ev_st 3 (f' := (3, [(0, .ref 1), (1, .int p1), (2, .int p2)], [.int p1, .ref 1, .int (1 : Int32)], (W9 N C E F P Q), k, n)) (g := True ∧ True ∧ True ∧ True) (by with_unfolding_all rfl) ⟨trivial, trivial, trivial, trivial⟩ ?_
  replace h := Option.bind_eq_some_iff.mp h
  obtain ⟨r1, hc1, h⟩ := h
  try dsimp only at h
  refine am_ev_call (.invokevirtual 37) 31 2 200 [.ref 1, .int p1] [.int (1 : Int32)] rfl rfl rfl rfl (ok_fN_sizeOf hc1 D (by omega)) rfl ?_
  refine am_ev_st 3 (f' := (9, [(0, .ref 1), (1, .int p1), (2, .int p2)], [.int p2, .ref 1, .int ((1 : Int32) + r1)], (W9 N C E F P Q), k, n)) (g := True ∧ True ∧ True ∧ True) (by with_unfolding_all rfl) ⟨trivial, trivial, trivial, trivial⟩ ?_
  replace h := Option.bind_eq_some_iff.mp h
  obtain ⟨r2, hc2, h⟩ := h
  try dsimp only at h
  refine am_ev_call (.invokevirtual 37) 31 2 200 [.ref 1, .int p2] [.int ((1 : Int32) + r1)] rfl rfl rfl rfl (ok_fN_sizeOf hc2 D (by omega)) rfl ?_
  refine am_ev_st 3 (f' := am_br ((60 : Int32) < (((1 : Int32) + r1) + r2)) 42 15 [(0, .ref 1), (1, .int p1), (2, .int p2)] [] (W9 N C E F P Q) k n) (g := True ∧ True ∧ True ∧ True) (by with_unfolding_all rfl) ⟨trivial, trivial, trivial, trivial⟩ ?_
  by_cases c3 : (60 : Int32) < (((1 : Int32) + r1) + r2)
  · rw [if_pos c3] at h
    refine am_ev_pos c3 ?_
    refine am_ev_st 1 (f' := (43, [(0, .ref 1), (1, .int p1), (2, .int p2)], [.int (0 : Int32)], (W9 N C E F P Q), k, n)) (g := True ∧ True) (by with_unfolding_all rfl) ⟨trivial, trivial⟩ ?_
    cases h
    exact am_ev_ret 0 0 0 rfl .boolean rfl am_n0 rfl
  · rw [if_neg c3] at h
    refine am_ev_neg c3 ?_
    refine am_ev_st 3 (f' := (21, [(0, .ref 1), (1, .int p1), (2, .int p2)], [.int p1, .ref 1, .int (1 : Int32)], (W9 N C E F P Q), k, n)) (g := True ∧ True ∧ True ∧ True) (by with_unfolding_all rfl) ⟨trivial, trivial, trivial, trivial⟩ ?_
    replace h := Option.bind_eq_some_iff.mp h
    obtain ⟨r4, hc4, h⟩ := h
    try dsimp only at h
    refine am_ev_call (.invokevirtual 41) 32 2 204 [.ref 1, .int p1] [.int (1 : Int32)] rfl rfl rfl rfl (ok_fN_depthOf hc4 D (by omega)) rfl ?_
    refine am_ev_st 2 (f' := (26, [(0, .ref 1), (1, .int p1), (2, .int p2)], [.int p2, .ref 1, .int r4, .int (1 : Int32)], (W9 N C E F P Q), k, n)) (g := True ∧ True ∧ True) (by with_unfolding_all rfl) ⟨trivial, trivial, trivial⟩ ?_
    replace h := Option.bind_eq_some_iff.mp h
    obtain ⟨r5, hc5, h⟩ := h
    try dsimp only at h
    refine am_ev_call (.invokevirtual 41) 32 2 204 [.ref 1, .int p2] [.int r4, .int (1 : Int32)] rfl rfl rfl rfl (ok_fN_depthOf hc5 D (by omega)) rfl ?_
    refine am_ev_st 4 (f' := am_br ((12 : Int32) < ((1 : Int32) + (if r4 < r5 then r5 else r4))) 42 35 [(0, .ref 1), (1, .int p1), (2, .int p2)] [] (W9 N C E F P Q) k n) (g := True ∧ True ∧ True ∧ True ∧ True) (by with_unfolding_all rfl) ⟨trivial, trivial, trivial, trivial, trivial⟩ ?_
    by_cases c6 : (12 : Int32) < ((1 : Int32) + (if r4 < r5 then r5 else r4))
    · rw [if_pos c6] at h
      refine am_ev_pos c6 ?_
      refine am_ev_st 1 (f' := (43, [(0, .ref 1), (1, .int p1), (2, .int p2)], [.int (0 : Int32)], (W9 N C E F P Q), k, n)) (g := True ∧ True) (by with_unfolding_all rfl) ⟨trivial, trivial⟩ ?_
      cases h
      exact am_ev_ret 0 0 0 rfl .boolean rfl am_n0 rfl
    · rw [if_neg c6] at h
      refine am_ev_neg c6 ?_
      refine am_ev_st 2 (f' := (43, [(0, .ref 1), (1, .int p1), (2, .int p2)], [.int (1 : Int32)], (W9 N C E F P Q), k, n)) (g := True ∧ True ∧ True) (by with_unfolding_all rfl) ⟨trivial, trivial, trivial⟩ ?_
      cases h
      exact am_ev_ret 0 0 0 rfl .boolean rfl am_n1 rfl
def fJ_mayBeMade (N : cN) (C : cC) (p1 p2 p3 : Int32) : Option (Bool) :=
  if p1 = 0 then
  (if p2 < 0 then
  (some false)
  else
  if (9 : Int32) < p2 then
  (some false)
  else
  some true)
  else
  if p1 ≠ (1 : Int32) then
  (if p1 ≠ (5 : Int32) then
  ((fJ_hasParts p1).bind fun z6 =>
  match z6 with
  | (r6) =>
  if (am_bz r6) = 0 then
  (some false)
  else
  (fN_isTerm N p2).bind fun z8 =>
  match z8 with
  | (r8) =>
  if (am_bz r8) = 0 then
  (some false)
  else
  (fN_isTerm N p3).bind fun z10 =>
  match z10 with
  | (r10) =>
  if (am_bz r10) = 0 then
  (some false)
  else
  (fN_mayJoin N p2 p3).bind fun z12 =>
  match z12 with
  | (r12) =>
  if (am_bz r12) = 0 then
  (some false)
  else
  some true)
  else
  (fC_isThere C p2).bind fun z14 =>
  match z14 with
  | (r14) =>
  some r14)
  else
  if p2 < 0 then
  (some false)
  else
  if (9 : Int32) < p2 then
  (some false)
  else
  some true
set_option maxHeartbeats 4000000 in
set_option maxRecDepth 100000 in
theorem ok_fJ_mayBeMade  {N : cN} {C : cC} {E : cE} {F : cF} {P : cP} {Q : cQ} {k n : Nat} {p1 p2 p3 : Int32} {rv : Bool} (h : fJ_mayBeMade N C p1 p2 p3 = some rv) (D : Nat) (hD : 3 ≤ D) : am_Call D 70 [.ref 0, .int p1, .int p2, .int p3] (W9 N C E F P Q) k n (.inl (some (.int (am_bz rv))), W9 N C E F P Q, k, n) := by
  unfold fJ_mayBeMade at h
  obtain ⟨D, rfl⟩ : ∃ D', D = D' + 1 := ⟨D - 1, by omega⟩
  have hD : 2 ≤ D := by omega
  refine am_call_run (by decide) (by decide) rfl (Nat.le_of_ble_eq_true rfl) (by decide) (L := [(0, .ref 0), (1, .int p1), (2, .int p2), (3, .int p3)]) rfl ?_
  refine am_ev_st 2 (f' := am_br (p1 = 0) 9 1 [(0, .ref 0), (1, .int p1), (2, .int p2), (3, .int p3)] [] (W9 N C E F P Q) k n) (g := True ∧ True ∧ True) (by with_unfolding_all rfl) ⟨trivial, trivial, trivial⟩ ?_
  by_cases c1 : p1 = 0
  · rw [if_pos c1] at h
    refine am_ev_pos c1 ?_
    refine am_ev_st 2 (f' := am_br (p2 < 0) 23 10 [(0, .ref 0), (1, .int p1), (2, .int p2), (3, .int p3)] [] (W9 N C E F P Q) k n) (g := True ∧ True ∧ True) (by with_unfolding_all rfl) ⟨trivial, trivial, trivial⟩ ?_
    by_cases c2 : p2 < 0
    · rw [if_pos c2] at h
      refine am_ev_pos c2 ?_
      refine am_ev_st 1 (f' := (24, [(0, .ref 0), (1, .int p1), (2, .int p2), (3, .int p3)], [.int (0 : Int32)], (W9 N C E F P Q), k, n)) (g := True ∧ True) (by with_unfolding_all rfl) ⟨trivial, trivial⟩ ?_
      cases h
      exact am_ev_ret 0 0 0 rfl .boolean rfl am_n0 rfl
    · rw [if_neg c2] at h
      refine am_ev_neg c2 ?_
      refine am_ev_st 3 (f' := am_br ((9 : Int32) < p2) 23 16 [(0, .ref 0), (1, .int p1), (2, .int p2), (3, .int p3)] [] (W9 N C E F P Q) k n) (g := True ∧ True ∧ True ∧ True) (by with_unfolding_all rfl) ⟨trivial, trivial, trivial, trivial⟩ ?_
      by_cases c3 : (9 : Int32) < p2
      · rw [if_pos c3] at h
        refine am_ev_pos c3 ?_
        refine am_ev_st 1 (f' := (24, [(0, .ref 0), (1, .int p1), (2, .int p2), (3, .int p3)], [.int (0 : Int32)], (W9 N C E F P Q), k, n)) (g := True ∧ True) (by with_unfolding_all rfl) ⟨trivial, trivial⟩ ?_
        cases h
        exact am_ev_ret 0 0 0 rfl .boolean rfl am_n0 rfl
      · rw [if_neg c3] at h
        refine am_ev_neg c3 ?_
        refine am_ev_st 2 (f' := (24, [(0, .ref 0), (1, .int p1), (2, .int p2), (3, .int p3)], [.int (1 : Int32)], (W9 N C E F P Q), k, n)) (g := True ∧ True ∧ True) (by with_unfolding_all rfl) ⟨trivial, trivial, trivial⟩ ?_
        cases h
        exact am_ev_ret 0 0 0 rfl .boolean rfl am_n1 rfl
  · rw [if_neg c1] at h
    refine am_ev_neg c1 ?_
    refine am_ev_st 3 (f' := am_br (p1 ≠ (1 : Int32)) 25 6 [(0, .ref 0), (1, .int p1), (2, .int p2), (3, .int p3)] [] (W9 N C E F P Q) k n) (g := True ∧ True ∧ True ∧ True) (by with_unfolding_all rfl) ⟨trivial, trivial, trivial, trivial⟩ ?_
    by_cases c4 : p1 ≠ (1 : Int32)
    · rw [if_pos c4] at h
      refine am_ev_pos c4 ?_
      refine am_ev_st 3 (f' := am_br (p1 ≠ (5 : Int32)) 39 27 [(0, .ref 0), (1, .int p1), (2, .int p2), (3, .int p3)] [] (W9 N C E F P Q) k n) (g := True ∧ True ∧ True ∧ True) (by with_unfolding_all rfl) ⟨trivial, trivial, trivial, trivial⟩ ?_
      by_cases c5 : p1 ≠ (5 : Int32)
      · rw [if_pos c5] at h
        refine am_ev_pos c5 ?_
        refine am_ev_st 1 (f' := (40, [(0, .ref 0), (1, .int p1), (2, .int p2), (3, .int p3)], [.int p1], (W9 N C E F P Q), k, n)) (g := True ∧ True) (by with_unfolding_all rfl) ⟨trivial, trivial⟩ ?_
        replace h := Option.bind_eq_some_iff.mp h
        obtain ⟨r6, hc6, h⟩ := h
        try dsimp only at h
        refine am_ev_call (.invokestatic 55) 69 2 189 [.int p1] [] rfl rfl rfl rfl (ok_fJ_hasParts hc6 D (by omega)) rfl ?_
        refine am_ev_st 1 (f' := am_br ((am_bz r6) = 0) 84 43 [(0, .ref 0), (1, .int p1), (2, .int p2), (3, .int p3)] [] (W9 N C E F P Q) k n) (g := True ∧ True) (by with_unfolding_all rfl) ⟨trivial, trivial⟩ ?_
        by_cases c7 : (am_bz r6) = 0
        · rw [if_pos c7] at h
          refine am_ev_pos c7 ?_
          refine am_ev_st 1 (f' := (85, [(0, .ref 0), (1, .int p1), (2, .int p2), (3, .int p3)], [.int (0 : Int32)], (W9 N C E F P Q), k, n)) (g := True ∧ True) (by with_unfolding_all rfl) ⟨trivial, trivial⟩ ?_
          cases h
          exact am_ev_ret 0 0 0 rfl .boolean rfl am_n0 rfl
        · rw [if_neg c7] at h
          refine am_ev_neg c7 ?_
          refine am_ev_st 3 (f' := (51, [(0, .ref 0), (1, .int p1), (2, .int p2), (3, .int p3)], [.int p2, .ref 1], (W9 N C E F P Q), k, n)) (g := True ∧ True ∧ True ∧ True) (by with_unfolding_all rfl) ⟨trivial, trivial, trivial, trivial⟩ ?_
          replace h := Option.bind_eq_some_iff.mp h
          obtain ⟨r8, hc8, h⟩ := h
          try dsimp only at h
          refine am_ev_call (.invokevirtual 67) 27 2 192 [.ref 1, .int p2] [] rfl rfl rfl rfl (ok_fN_isTerm hc8 D (by omega)) rfl ?_
          refine am_ev_st 1 (f' := am_br ((am_bz r8) = 0) 84 54 [(0, .ref 0), (1, .int p1), (2, .int p2), (3, .int p3)] [] (W9 N C E F P Q) k n) (g := True ∧ True) (by with_unfolding_all rfl) ⟨trivial, trivial⟩ ?_
          by_cases c9 : (am_bz r8) = 0
          · rw [if_pos c9] at h
            refine am_ev_pos c9 ?_
            refine am_ev_st 1 (f' := (85, [(0, .ref 0), (1, .int p1), (2, .int p2), (3, .int p3)], [.int (0 : Int32)], (W9 N C E F P Q), k, n)) (g := True ∧ True) (by with_unfolding_all rfl) ⟨trivial, trivial⟩ ?_
            cases h
            exact am_ev_ret 0 0 0 rfl .boolean rfl am_n0 rfl
          · rw [if_neg c9] at h
            refine am_ev_neg c9 ?_
            refine am_ev_st 3 (f' := (62, [(0, .ref 0), (1, .int p1), (2, .int p2), (3, .int p3)], [.int p3, .ref 1], (W9 N C E F P Q), k, n)) (g := True ∧ True ∧ True ∧ True) (by with_unfolding_all rfl) ⟨trivial, trivial, trivial, trivial⟩ ?_
            replace h := Option.bind_eq_some_iff.mp h
            obtain ⟨r10, hc10, h⟩ := h
            try dsimp only at h
            refine am_ev_call (.invokevirtual 67) 27 2 192 [.ref 1, .int p3] [] rfl rfl rfl rfl (ok_fN_isTerm hc10 D (by omega)) rfl ?_
            refine am_ev_st 1 (f' := am_br ((am_bz r10) = 0) 84 65 [(0, .ref 0), (1, .int p1), (2, .int p2), (3, .int p3)] [] (W9 N C E F P Q) k n) (g := True ∧ True) (by with_unfolding_all rfl) ⟨trivial, trivial⟩ ?_
            by_cases c11 : (am_bz r10) = 0
            · rw [if_pos c11] at h
              refine am_ev_pos c11 ?_
              refine am_ev_st 1 (f' := (85, [(0, .ref 0), (1, .int p1), (2, .int p2), (3, .int p3)], [.int (0 : Int32)], (W9 N C E F P Q), k, n)) (g := True ∧ True) (by with_unfolding_all rfl) ⟨trivial, trivial⟩ ?_
              cases h
              exact am_ev_ret 0 0 0 rfl .boolean rfl am_n0 rfl
            · rw [if_neg c11] at h
              refine am_ev_neg c11 ?_
              refine am_ev_st 4 (f' := (74, [(0, .ref 0), (1, .int p1), (2, .int p2), (3, .int p3)], [.int p3, .int p2, .ref 1], (W9 N C E F P Q), k, n)) (g := True ∧ True ∧ True ∧ True ∧ True) (by with_unfolding_all rfl) ⟨trivial, trivial, trivial, trivial, trivial⟩ ?_
              replace h := Option.bind_eq_some_iff.mp h
              obtain ⟨r12, hc12, h⟩ := h
              try dsimp only at h
              refine am_ev_call (.invokevirtual 154) 33 4 196 [.ref 1, .int p2, .int p3] [] rfl rfl rfl rfl (ok_fN_mayJoin hc12 D (by omega)) rfl ?_
              refine am_ev_st 1 (f' := am_br ((am_bz r12) = 0) 84 77 [(0, .ref 0), (1, .int p1), (2, .int p2), (3, .int p3)] [] (W9 N C E F P Q) k n) (g := True ∧ True) (by with_unfolding_all rfl) ⟨trivial, trivial⟩ ?_
              by_cases c13 : (am_bz r12) = 0
              · rw [if_pos c13] at h
                refine am_ev_pos c13 ?_
                refine am_ev_st 1 (f' := (85, [(0, .ref 0), (1, .int p1), (2, .int p2), (3, .int p3)], [.int (0 : Int32)], (W9 N C E F P Q), k, n)) (g := True ∧ True) (by with_unfolding_all rfl) ⟨trivial, trivial⟩ ?_
                cases h
                exact am_ev_ret 0 0 0 rfl .boolean rfl am_n0 rfl
              · rw [if_neg c13] at h
                refine am_ev_neg c13 ?_
                refine am_ev_st 2 (f' := (85, [(0, .ref 0), (1, .int p1), (2, .int p2), (3, .int p3)], [.int (1 : Int32)], (W9 N C E F P Q), k, n)) (g := True ∧ True ∧ True) (by with_unfolding_all rfl) ⟨trivial, trivial, trivial⟩ ?_
                cases h
                exact am_ev_ret 0 0 0 rfl .boolean rfl am_n1 rfl
      · rw [if_neg c5] at h
        refine am_ev_neg c5 ?_
        refine am_ev_st 3 (f' := (35, [(0, .ref 0), (1, .int p1), (2, .int p2), (3, .int p3)], [.int p2, .ref 7], (W9 N C E F P Q), k, n)) (g := True ∧ True ∧ True ∧ True) (by with_unfolding_all rfl) ⟨trivial, trivial, trivial, trivial⟩ ?_
        replace h := Option.bind_eq_some_iff.mp h
        obtain ⟨r14, hc14, h⟩ := h
        try dsimp only at h
        refine am_ev_call (.invokevirtual 131) 3 2 185 [.ref 7, .int p2] [] rfl rfl rfl rfl (ok_fC_isThere hc14 D (by omega)) rfl ?_
        cases h
        exact am_ev_ret 0 0 0 rfl .boolean rfl (am_bz_nar _) rfl
    · rw [if_neg c4] at h
      refine am_ev_neg c4 ?_
      refine am_ev_st 2 (f' := am_br (p2 < 0) 23 10 [(0, .ref 0), (1, .int p1), (2, .int p2), (3, .int p3)] [] (W9 N C E F P Q) k n) (g := True ∧ True ∧ True) (by with_unfolding_all rfl) ⟨trivial, trivial, trivial⟩ ?_
      by_cases c15 : p2 < 0
      · rw [if_pos c15] at h
        refine am_ev_pos c15 ?_
        refine am_ev_st 1 (f' := (24, [(0, .ref 0), (1, .int p1), (2, .int p2), (3, .int p3)], [.int (0 : Int32)], (W9 N C E F P Q), k, n)) (g := True ∧ True) (by with_unfolding_all rfl) ⟨trivial, trivial⟩ ?_
        cases h
        exact am_ev_ret 0 0 0 rfl .boolean rfl am_n0 rfl
      · rw [if_neg c15] at h
        refine am_ev_neg c15 ?_
        refine am_ev_st 3 (f' := am_br ((9 : Int32) < p2) 23 16 [(0, .ref 0), (1, .int p1), (2, .int p2), (3, .int p3)] [] (W9 N C E F P Q) k n) (g := True ∧ True ∧ True ∧ True) (by with_unfolding_all rfl) ⟨trivial, trivial, trivial, trivial⟩ ?_
        by_cases c16 : (9 : Int32) < p2
        · rw [if_pos c16] at h
          refine am_ev_pos c16 ?_
          refine am_ev_st 1 (f' := (24, [(0, .ref 0), (1, .int p1), (2, .int p2), (3, .int p3)], [.int (0 : Int32)], (W9 N C E F P Q), k, n)) (g := True ∧ True) (by with_unfolding_all rfl) ⟨trivial, trivial⟩ ?_
          cases h
          exact am_ev_ret 0 0 0 rfl .boolean rfl am_n0 rfl
        · rw [if_neg c16] at h
          refine am_ev_neg c16 ?_
          refine am_ev_st 2 (f' := (24, [(0, .ref 0), (1, .int p1), (2, .int p2), (3, .int p3)], [.int (1 : Int32)], (W9 N C E F P Q), k, n)) (g := True ∧ True ∧ True) (by with_unfolding_all rfl) ⟨trivial, trivial, trivial⟩ ?_
          cases h
          exact am_ev_ret 0 0 0 rfl .boolean rfl am_n1 rfl
def fJ_make (N : cN) (C : cC) (p1 p2 p3 : Int32) : Option (Int32 × cN) :=
  (fJ_mayBeMade N C p1 p2 p3).bind fun z1 =>
  match z1 with
  | (r1) =>
  if (am_bz r1) ≠ 0 then
  ((fJ_hasParts p1).bind fun z3 =>
  match z3 with
  | (r3) =>
  if (am_bz r3) = 0 then
  ((fN_addTerm N p1 p2 (-1 : Int32)).bind fun z5 =>
  match z5 with
  | (r5, N_5) =>
  some (r5, N_5))
  else
  (fN_addTerm N p1 p2 p3).bind fun z6 =>
  match z6 with
  | (r6, N_6) =>
  some (r6, N_6))
  else
  some ((-1 : Int32), N)
set_option maxHeartbeats 4000000 in
set_option maxRecDepth 100000 in
theorem ok_fJ_make  {N : cN} {C : cC} {E : cE} {F : cF} {P : cP} {Q : cQ} {k n : Nat} {p1 p2 p3 : Int32} {rv : Int32} {N' : cN} (h : fJ_make N C p1 p2 p3 = some (rv, N')) (D : Nat) (hD : 4 ≤ D) : am_Call D 56 [.ref 0, .int p1, .int p2, .int p3] (W9 N C E F P Q) k n (.inl (some (.int rv)), W9 N' C E F P Q, k, n) := by
  unfold fJ_make at h
  obtain ⟨D, rfl⟩ : ∃ D', D = D' + 1 := ⟨D - 1, by omega⟩
  have hD : 3 ≤ D := by omega
  refine am_call_run (by decide) (by decide) rfl (Nat.le_of_ble_eq_true rfl) (by decide) (L := [(0, .ref 0), (1, .int p1), (2, .int p2), (3, .int p3)]) rfl ?_
  refine am_ev_st 4 (f' := (4, [(0, .ref 0), (1, .int p1), (2, .int p2), (3, .int p3)], [.int p3, .int p2, .int p1, .ref 0], (W9 N C E F P Q), k, n)) (g := True ∧ True ∧ True ∧ True ∧ True) (by with_unfolding_all rfl) ⟨trivial, trivial, trivial, trivial, trivial⟩ ?_
  replace h := Option.bind_eq_some_iff.mp h
  obtain ⟨r1, hc1, h⟩ := h
  try dsimp only at h
  refine am_ev_call (.invokevirtual 51) 70 6 181 [.ref 0, .int p1, .int p2, .int p3] [] rfl rfl rfl rfl (ok_fJ_mayBeMade hc1 D (by omega)) rfl ?_
  refine am_ev_st 1 (f' := am_br ((am_bz r1) ≠ 0) 12 7 [(0, .ref 0), (1, .int p1), (2, .int p2), (3, .int p3)] [] (W9 N C E F P Q) k n) (g := True ∧ True) (by with_unfolding_all rfl) ⟨trivial, trivial⟩ ?_
  by_cases c2 : (am_bz r1) ≠ 0
  · rw [if_pos c2] at h
    refine am_ev_pos c2 ?_
    refine am_ev_st 5 (f' := (19, [(0, .ref 0), (1, .int p1), (2, .int p2), (3, .int p3)], [.int p1, .int p2, .int p1, .ref 1], (W9 N C E F P Q), k, n)) (g := True ∧ True ∧ True ∧ True ∧ True ∧ True) (by with_unfolding_all rfl) ⟨trivial, trivial, trivial, trivial, trivial, trivial⟩ ?_
    replace h := Option.bind_eq_some_iff.mp h
    obtain ⟨r3, hc3, h⟩ := h
    try dsimp only at h
    refine am_ev_call (.invokestatic 55) 69 2 189 [.int p1] [.int p2, .int p1, .ref 1] rfl rfl rfl rfl (ok_fJ_hasParts hc3 D (by omega)) rfl ?_
    refine am_ev_st 1 (f' := am_br ((am_bz r3) = 0) 29 22 [(0, .ref 0), (1, .int p1), (2, .int p2), (3, .int p3)] [.int p2, .int p1, .ref 1] (W9 N C E F P Q) k n) (g := True ∧ True) (by with_unfolding_all rfl) ⟨trivial, trivial⟩ ?_
    by_cases c4 : (am_bz r3) = 0
    · rw [if_pos c4] at h
      refine am_ev_pos c4 ?_
      refine am_ev_st 1 (f' := (30, [(0, .ref 0), (1, .int p1), (2, .int p2), (3, .int p3)], [.int (-1 : Int32), .int p2, .int p1, .ref 1], (W9 N C E F P Q), k, n)) (g := True ∧ True) (by with_unfolding_all rfl) ⟨trivial, trivial⟩ ?_
      replace h := Option.bind_eq_some_iff.mp h
      obtain ⟨⟨r5, N_5⟩, hc5, h⟩ := h
      try dsimp only at h
      refine am_ev_call (.invokevirtual 59) 35 6 211 [.ref 1, .int p1, .int p2, .int (-1 : Int32)] [] rfl rfl rfl rfl (ok_fN_addTerm hc5 D (by omega)) rfl ?_
      cases h
      exact am_ev_ret 0 0 0 rfl .int rfl rfl rfl
    · rw [if_neg c4] at h
      refine am_ev_neg c4 ?_
      refine am_ev_st 2 (f' := (30, [(0, .ref 0), (1, .int p1), (2, .int p2), (3, .int p3)], [.int p3, .int p2, .int p1, .ref 1], (W9 N C E F P Q), k, n)) (g := True ∧ True ∧ True) (by with_unfolding_all rfl) ⟨trivial, trivial, trivial⟩ ?_
      replace h := Option.bind_eq_some_iff.mp h
      obtain ⟨⟨r6, N_6⟩, hc6, h⟩ := h
      try dsimp only at h
      refine am_ev_call (.invokevirtual 59) 35 6 211 [.ref 1, .int p1, .int p2, .int p3] [] rfl rfl rfl rfl (ok_fN_addTerm hc6 D (by omega)) rfl ?_
      cases h
      exact am_ev_ret 0 0 0 rfl .int rfl rfl rfl
  · rw [if_neg c2] at h
    refine am_ev_neg c2 ?_
    refine am_ev_st 1 (f' := (11, [(0, .ref 0), (1, .int p1), (2, .int p2), (3, .int p3)], [.int (-1 : Int32)], (W9 N C E F P Q), k, n)) (g := True ∧ True) (by with_unfolding_all rfl) ⟨trivial, trivial⟩ ?_
    cases h
    exact am_ev_ret 0 0 0 rfl .int rfl rfl rfl
