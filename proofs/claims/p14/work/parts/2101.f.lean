def fm_make (T : cT) (G : cG) (U : cU) (p1 p2 p3 : Int32) : Option (Int32 × cT × cU) :=
  if p1 < 0 then
  (some ((-1 : Int32), T, ((0 : Int32))))
  else
  if (5 : Int32) < p1 then
  (some ((-1 : Int32), T, ((0 : Int32))))
  else
  match T with
  | (te, tk, ta, tb, tn, td) =>
  if te ≠ (120 : Int32) then
  (if (2 : Int32) ≤ p1 then
  (if p1 ≠ (5 : Int32) then
  (if p2 < 0 then
  (some ((-1 : Int32), T, ((0 : Int32))))
  else
  if te ≤ p2 then
  (some ((-1 : Int32), T, ((0 : Int32))))
  else
  if p3 < 0 then
  (some ((-1 : Int32), T, ((0 : Int32))))
  else
  if p3 < te then
  (if (p2 < 0 ∨ 120 ≤ (p2).toNatClampNeg) then none else
  if (p3 < 0 ∨ 120 ≤ (p3).toNatClampNeg) then none else
  if (p2 < 0 ∨ 120 ≤ (p2).toNatClampNeg) then none else
  if (p3 < 0 ∨ 120 ≤ (p3).toNatClampNeg) then none else
  if (td (p2).toNatClampNeg) ≤ (td (p3).toNatClampNeg) then
  (if (p3 < 0 ∨ 120 ≤ (p3).toNatClampNeg) then none else
  if (60 : Int32) < (((1 : Int32) + (tn (p2).toNatClampNeg)) + (tn (p3).toNatClampNeg)) then
  (some ((-1 : Int32), T, ((0 : Int32))))
  else
  if ((1 : Int32) + (td (p3).toNatClampNeg)) ≤ (12 : Int32) then
  (if (te < 0 ∨ 120 ≤ (te).toNatClampNeg) then none else
  if (te < 0 ∨ 120 ≤ (te).toNatClampNeg) then none else
  if p1 < (2 : Int32) then
  (if (te < 0 ∨ 120 ≤ (te).toNatClampNeg) then none else
  if (te < 0 ∨ 120 ≤ (te).toNatClampNeg) then none else
  if (te < 0 ∨ 120 ≤ (te).toNatClampNeg) then none else
  some (((te + (1 : Int32)) - (1 : Int32)), ((te + (1 : Int32)), (upd tk (te).toNatClampNeg p1), (upd ta (te).toNatClampNeg p2), (upd tb (te).toNatClampNeg (-1 : Int32)), (upd tn (te).toNatClampNeg (((1 : Int32) + (tn (p2).toNatClampNeg)) + (tn (p3).toNatClampNeg))), (upd td (te).toNatClampNeg ((1 : Int32) + (td (p3).toNatClampNeg)))), ((0 : Int32))))
  else
  if (4 : Int32) < p1 then
  (if (te < 0 ∨ 120 ≤ (te).toNatClampNeg) then none else
  if (te < 0 ∨ 120 ≤ (te).toNatClampNeg) then none else
  if (te < 0 ∨ 120 ≤ (te).toNatClampNeg) then none else
  some (((te + (1 : Int32)) - (1 : Int32)), ((te + (1 : Int32)), (upd tk (te).toNatClampNeg p1), (upd ta (te).toNatClampNeg p2), (upd tb (te).toNatClampNeg (-1 : Int32)), (upd tn (te).toNatClampNeg (((1 : Int32) + (tn (p2).toNatClampNeg)) + (tn (p3).toNatClampNeg))), (upd td (te).toNatClampNeg ((1 : Int32) + (td (p3).toNatClampNeg)))), ((0 : Int32))))
  else
  if (te < 0 ∨ 120 ≤ (te).toNatClampNeg) then none else
  if (te < 0 ∨ 120 ≤ (te).toNatClampNeg) then none else
  if (te < 0 ∨ 120 ≤ (te).toNatClampNeg) then none else
  some (((te + (1 : Int32)) - (1 : Int32)), ((te + (1 : Int32)), (upd tk (te).toNatClampNeg p1), (upd ta (te).toNatClampNeg p2), (upd tb (te).toNatClampNeg p3), (upd tn (te).toNatClampNeg (((1 : Int32) + (tn (p2).toNatClampNeg)) + (tn (p3).toNatClampNeg))), (upd td (te).toNatClampNeg ((1 : Int32) + (td (p3).toNatClampNeg)))), ((0 : Int32))))
  else
  some ((-1 : Int32), T, ((0 : Int32))))
  else
  if (p2 < 0 ∨ 120 ≤ (p2).toNatClampNeg) then none else
  if (60 : Int32) < (((1 : Int32) + (tn (p2).toNatClampNeg)) + (tn (p3).toNatClampNeg)) then
  (some ((-1 : Int32), T, ((0 : Int32))))
  else
  if ((1 : Int32) + (td (p2).toNatClampNeg)) ≤ (12 : Int32) then
  (if (te < 0 ∨ 120 ≤ (te).toNatClampNeg) then none else
  if (te < 0 ∨ 120 ≤ (te).toNatClampNeg) then none else
  if p1 < (2 : Int32) then
  (if (te < 0 ∨ 120 ≤ (te).toNatClampNeg) then none else
  if (te < 0 ∨ 120 ≤ (te).toNatClampNeg) then none else
  if (te < 0 ∨ 120 ≤ (te).toNatClampNeg) then none else
  some (((te + (1 : Int32)) - (1 : Int32)), ((te + (1 : Int32)), (upd tk (te).toNatClampNeg p1), (upd ta (te).toNatClampNeg p2), (upd tb (te).toNatClampNeg (-1 : Int32)), (upd tn (te).toNatClampNeg (((1 : Int32) + (tn (p2).toNatClampNeg)) + (tn (p3).toNatClampNeg))), (upd td (te).toNatClampNeg ((1 : Int32) + (td (p2).toNatClampNeg)))), ((0 : Int32))))
  else
  if (4 : Int32) < p1 then
  (if (te < 0 ∨ 120 ≤ (te).toNatClampNeg) then none else
  if (te < 0 ∨ 120 ≤ (te).toNatClampNeg) then none else
  if (te < 0 ∨ 120 ≤ (te).toNatClampNeg) then none else
  some (((te + (1 : Int32)) - (1 : Int32)), ((te + (1 : Int32)), (upd tk (te).toNatClampNeg p1), (upd ta (te).toNatClampNeg p2), (upd tb (te).toNatClampNeg (-1 : Int32)), (upd tn (te).toNatClampNeg (((1 : Int32) + (tn (p2).toNatClampNeg)) + (tn (p3).toNatClampNeg))), (upd td (te).toNatClampNeg ((1 : Int32) + (td (p2).toNatClampNeg)))), ((0 : Int32))))
  else
  if (te < 0 ∨ 120 ≤ (te).toNatClampNeg) then none else
  if (te < 0 ∨ 120 ≤ (te).toNatClampNeg) then none else
  if (te < 0 ∨ 120 ≤ (te).toNatClampNeg) then none else
  some (((te + (1 : Int32)) - (1 : Int32)), ((te + (1 : Int32)), (upd tk (te).toNatClampNeg p1), (upd ta (te).toNatClampNeg p2), (upd tb (te).toNatClampNeg p3), (upd tn (te).toNatClampNeg (((1 : Int32) + (tn (p2).toNatClampNeg)) + (tn (p3).toNatClampNeg))), (upd td (te).toNatClampNeg ((1 : Int32) + (td (p2).toNatClampNeg)))), ((0 : Int32))))
  else
  some ((-1 : Int32), T, ((0 : Int32))))
  else
  some ((-1 : Int32), T, ((0 : Int32))))
  else
  if p2 < 0 then
  (some ((-1 : Int32), T, ((0 : Int32))))
  else
  match G with
  | (gc, gb) =>
  if p2 < gc then
  (if (60 : Int32) < (1 : Int32) then
  (some ((-1 : Int32), T, ((0 : Int32))))
  else
  if (1 : Int32) ≤ (12 : Int32) then
  (if (te < 0 ∨ 120 ≤ (te).toNatClampNeg) then none else
  if (te < 0 ∨ 120 ≤ (te).toNatClampNeg) then none else
  if p1 < (2 : Int32) then
  (if (te < 0 ∨ 120 ≤ (te).toNatClampNeg) then none else
  if (te < 0 ∨ 120 ≤ (te).toNatClampNeg) then none else
  if (te < 0 ∨ 120 ≤ (te).toNatClampNeg) then none else
  some (((te + (1 : Int32)) - (1 : Int32)), ((te + (1 : Int32)), (upd tk (te).toNatClampNeg p1), (upd ta (te).toNatClampNeg p2), (upd tb (te).toNatClampNeg (-1 : Int32)), (upd tn (te).toNatClampNeg (1 : Int32)), (upd td (te).toNatClampNeg (1 : Int32))), ((0 : Int32))))
  else
  if (4 : Int32) < p1 then
  (if (te < 0 ∨ 120 ≤ (te).toNatClampNeg) then none else
  if (te < 0 ∨ 120 ≤ (te).toNatClampNeg) then none else
  if (te < 0 ∨ 120 ≤ (te).toNatClampNeg) then none else
  some (((te + (1 : Int32)) - (1 : Int32)), ((te + (1 : Int32)), (upd tk (te).toNatClampNeg p1), (upd ta (te).toNatClampNeg p2), (upd tb (te).toNatClampNeg (-1 : Int32)), (upd tn (te).toNatClampNeg (1 : Int32)), (upd td (te).toNatClampNeg (1 : Int32))), ((0 : Int32))))
  else
  if (te < 0 ∨ 120 ≤ (te).toNatClampNeg) then none else
  if (te < 0 ∨ 120 ≤ (te).toNatClampNeg) then none else
  if (te < 0 ∨ 120 ≤ (te).toNatClampNeg) then none else
  some (((te + (1 : Int32)) - (1 : Int32)), ((te + (1 : Int32)), (upd tk (te).toNatClampNeg p1), (upd ta (te).toNatClampNeg p2), (upd tb (te).toNatClampNeg p3), (upd tn (te).toNatClampNeg (1 : Int32)), (upd td (te).toNatClampNeg (1 : Int32))), ((0 : Int32))))
  else
  some ((-1 : Int32), T, ((0 : Int32))))
  else
  some ((-1 : Int32), T, ((0 : Int32))))
  else
  if p2 < 0 then
  (some ((-1 : Int32), T, ((0 : Int32))))
  else
  if p2 ≤ (9 : Int32) then
  (if (60 : Int32) < (1 : Int32) then
  (some ((-1 : Int32), T, ((0 : Int32))))
  else
  if (1 : Int32) ≤ (12 : Int32) then
  (if (te < 0 ∨ 120 ≤ (te).toNatClampNeg) then none else
  if (te < 0 ∨ 120 ≤ (te).toNatClampNeg) then none else
  if p1 < (2 : Int32) then
  (if (te < 0 ∨ 120 ≤ (te).toNatClampNeg) then none else
  if (te < 0 ∨ 120 ≤ (te).toNatClampNeg) then none else
  if (te < 0 ∨ 120 ≤ (te).toNatClampNeg) then none else
  some (((te + (1 : Int32)) - (1 : Int32)), ((te + (1 : Int32)), (upd tk (te).toNatClampNeg p1), (upd ta (te).toNatClampNeg p2), (upd tb (te).toNatClampNeg (-1 : Int32)), (upd tn (te).toNatClampNeg (1 : Int32)), (upd td (te).toNatClampNeg (1 : Int32))), ((0 : Int32))))
  else
  if (4 : Int32) < p1 then
  (if (te < 0 ∨ 120 ≤ (te).toNatClampNeg) then none else
  if (te < 0 ∨ 120 ≤ (te).toNatClampNeg) then none else
  if (te < 0 ∨ 120 ≤ (te).toNatClampNeg) then none else
  some (((te + (1 : Int32)) - (1 : Int32)), ((te + (1 : Int32)), (upd tk (te).toNatClampNeg p1), (upd ta (te).toNatClampNeg p2), (upd tb (te).toNatClampNeg (-1 : Int32)), (upd tn (te).toNatClampNeg (1 : Int32)), (upd td (te).toNatClampNeg (1 : Int32))), ((0 : Int32))))
  else
  if (te < 0 ∨ 120 ≤ (te).toNatClampNeg) then none else
  if (te < 0 ∨ 120 ≤ (te).toNatClampNeg) then none else
  if (te < 0 ∨ 120 ≤ (te).toNatClampNeg) then none else
  some (((te + (1 : Int32)) - (1 : Int32)), ((te + (1 : Int32)), (upd tk (te).toNatClampNeg p1), (upd ta (te).toNatClampNeg p2), (upd tb (te).toNatClampNeg p3), (upd tn (te).toNatClampNeg (1 : Int32)), (upd td (te).toNatClampNeg (1 : Int32))), ((0 : Int32))))
  else
  some ((-1 : Int32), T, ((0 : Int32))))
  else
  some ((-1 : Int32), T, ((0 : Int32))))
  else
  some ((-1 : Int32), T, ((0 : Int32)))
set_option maxHeartbeats 4000000 in
set_option maxRecDepth 100000 in
theorem ok_fm_make  {N : cN} {C : cC} {E : cE} {F : cF} {P : cP} {Q : cQ} {T : cT} {G : cG} {U : cU} {H : cH} {B : cB} {O : cO} {J : cJ} {V : cV} {Y : cY} {Z : cZ} {O9 : cO9} {k n : Nat} {p1 p2 p3 : Int32} {rv : Int32} {T' : cT} {U' : cU} (h : fm_make T G U p1 p2 p3 = some (rv, T', U')) (D : Nat) (hD : 1 ≤ D) : am_Call D 105 [.ref 19, .int p1, .int p2, .int p3] (W9 N C E F P Q T G U H B O J V Y Z O9) k n (.inl (some (.int rv)), W9 N C E F P Q T' G U' H B O J V Y Z O9, k, n) := by
  unfold fm_make at h
  obtain ⟨D, rfl⟩ : ∃ D', D = D' + 1 := ⟨D - 1, by omega⟩
  have hD : 0 ≤ D := by omega
  refine am_call_run (by decide) (by decide) rfl (Nat.le_of_ble_eq_true rfl) (by decide) (L := [(0, .ref 19), (1, .int p1), (2, .int p2), (3, .int p3)]) rfl ?_
  refine am_ev_st 5 (f' := am_br (p1 < 0) 23 6 [(0, .ref 19), (1, .int p1), (2, .int p2), (3, .int p3)] [] (W9 N C E F P Q T G ((0 : Int32)) H B O J V Y Z O9) k n) (g := True ∧ True ∧ True ∧ True ∧ True ∧ True) (by with_unfolding_all rfl) ⟨trivial, trivial, trivial, trivial, trivial, trivial⟩ ?_
  by_cases c1 : p1 < 0
  · rw [if_pos c1] at h
    refine am_ev_pos c1 ?_
    refine am_ev_st 1 (f' := (24, [(0, .ref 19), (1, .int p1), (2, .int p2), (3, .int p3)], [.int (-1 : Int32)], (W9 N C E F P Q T G ((0 : Int32)) H B O J V Y Z O9), k, n)) (g := True ∧ True) (by with_unfolding_all rfl) ⟨trivial, trivial⟩ ?_
    cases h
    exact am_ev_ret 0 0 0 rfl .int rfl rfl rfl
  · rw [if_neg c1] at h
    refine am_ev_neg c1 ?_
    refine am_ev_st 3 (f' := am_br ((5 : Int32) < p1) 23 11 [(0, .ref 19), (1, .int p1), (2, .int p2), (3, .int p3)] [] (W9 N C E F P Q T G ((0 : Int32)) H B O J V Y Z O9) k n) (g := True ∧ True ∧ True ∧ True) (by with_unfolding_all rfl) ⟨trivial, trivial, trivial, trivial⟩ ?_
    by_cases c2 : (5 : Int32) < p1
    · rw [if_pos c2] at h
      refine am_ev_pos c2 ?_
      refine am_ev_st 1 (f' := (24, [(0, .ref 19), (1, .int p1), (2, .int p2), (3, .int p3)], [.int (-1 : Int32)], (W9 N C E F P Q T G ((0 : Int32)) H B O J V Y Z O9), k, n)) (g := True ∧ True) (by with_unfolding_all rfl) ⟨trivial, trivial⟩ ?_
      cases h
      exact am_ev_ret 0 0 0 rfl .int rfl rfl rfl
    · rw [if_neg c2] at h
      refine am_ev_neg c2 ?_
      obtain ⟨te, tk, ta, tb, tn, td⟩ := T
      try dsimp only at h
      refine am_ev_st 4 (f' := am_br (te ≠ (120 : Int32)) 25 20 [(0, .ref 19), (1, .int p1), (2, .int p2), (3, .int p3)] [] (W9 N C E F P Q (te, tk, ta, tb, tn, td) G ((0 : Int32)) H B O J V Y Z O9) k n) (g := True ∧ True ∧ True ∧ True ∧ True) (by with_unfolding_all rfl) ⟨trivial, trivial, trivial, trivial, trivial⟩ ?_
      by_cases c3 : te ≠ (120 : Int32)
      · rw [if_pos c3] at h
        refine am_ev_pos c3 ?_
        refine am_ev_st 7 (f' := am_br ((2 : Int32) ≤ p1) 48 33 [(5, .int (1 : Int32)), (4, .int (1 : Int32)), (0, .ref 19), (1, .int p1), (2, .int p2), (3, .int p3)] [] (W9 N C E F P Q (te, tk, ta, tb, tn, td) G ((0 : Int32)) H B O J V Y Z O9) k n) (g := True ∧ True ∧ True ∧ True ∧ True ∧ True ∧ True ∧ True) (by with_unfolding_all rfl) ⟨trivial, trivial, trivial, trivial, trivial, trivial, trivial, trivial⟩ ?_
        by_cases c4 : (2 : Int32) ≤ p1
        · rw [if_pos c4] at h
          refine am_ev_pos c4 ?_
          refine am_ev_st 3 (f' := am_br (p1 ≠ (5 : Int32)) 67 50 [(5, .int (1 : Int32)), (4, .int (1 : Int32)), (0, .ref 19), (1, .int p1), (2, .int p2), (3, .int p3)] [] (W9 N C E F P Q (te, tk, ta, tb, tn, td) G ((0 : Int32)) H B O J V Y Z O9) k n) (g := True ∧ True ∧ True ∧ True) (by with_unfolding_all rfl) ⟨trivial, trivial, trivial, trivial⟩ ?_
          by_cases c5 : p1 ≠ (5 : Int32)
          · rw [if_pos c5] at h
            refine am_ev_pos c5 ?_
            refine am_ev_st 2 (f' := am_br (p2 < 0) 91 68 [(5, .int (1 : Int32)), (4, .int (1 : Int32)), (0, .ref 19), (1, .int p1), (2, .int p2), (3, .int p3)] [] (W9 N C E F P Q (te, tk, ta, tb, tn, td) G ((0 : Int32)) H B O J V Y Z O9) k n) (g := True ∧ True ∧ True) (by with_unfolding_all rfl) ⟨trivial, trivial, trivial⟩ ?_
            by_cases c6 : p2 < 0
            · rw [if_pos c6] at h
              refine am_ev_pos c6 ?_
              refine am_ev_st 1 (f' := (92, [(5, .int (1 : Int32)), (4, .int (1 : Int32)), (0, .ref 19), (1, .int p1), (2, .int p2), (3, .int p3)], [.int (-1 : Int32)], (W9 N C E F P Q (te, tk, ta, tb, tn, td) G ((0 : Int32)) H B O J V Y Z O9), k, n)) (g := True ∧ True) (by with_unfolding_all rfl) ⟨trivial, trivial⟩ ?_
              cases h
              exact am_ev_ret 0 0 0 rfl .int rfl rfl rfl
            · rw [if_neg c6] at h
              refine am_ev_neg c6 ?_
              refine am_ev_st 4 (f' := am_br (te ≤ p2) 91 76 [(5, .int (1 : Int32)), (4, .int (1 : Int32)), (0, .ref 19), (1, .int p1), (2, .int p2), (3, .int p3)] [] (W9 N C E F P Q (te, tk, ta, tb, tn, td) G ((0 : Int32)) H B O J V Y Z O9) k n) (g := True ∧ True ∧ True ∧ True ∧ True) (by with_unfolding_all rfl) ⟨trivial, trivial, trivial, trivial, trivial⟩ ?_
              by_cases c7 : te ≤ p2
              · rw [if_pos c7] at h
                refine am_ev_pos c7 ?_
                refine am_ev_st 1 (f' := (92, [(5, .int (1 : Int32)), (4, .int (1 : Int32)), (0, .ref 19), (1, .int p1), (2, .int p2), (3, .int p3)], [.int (-1 : Int32)], (W9 N C E F P Q (te, tk, ta, tb, tn, td) G ((0 : Int32)) H B O J V Y Z O9), k, n)) (g := True ∧ True) (by with_unfolding_all rfl) ⟨trivial, trivial⟩ ?_
                cases h
                exact am_ev_ret 0 0 0 rfl .int rfl rfl rfl
              · rw [if_neg c7] at h
                refine am_ev_neg c7 ?_
                refine am_ev_st 2 (f' := am_br (p3 < 0) 91 80 [(5, .int (1 : Int32)), (4, .int (1 : Int32)), (0, .ref 19), (1, .int p1), (2, .int p2), (3, .int p3)] [] (W9 N C E F P Q (te, tk, ta, tb, tn, td) G ((0 : Int32)) H B O J V Y Z O9) k n) (g := True ∧ True ∧ True) (by with_unfolding_all rfl) ⟨trivial, trivial, trivial⟩ ?_
                by_cases c8 : p3 < 0
                · rw [if_pos c8] at h
                  refine am_ev_pos c8 ?_
                  refine am_ev_st 1 (f' := (92, [(5, .int (1 : Int32)), (4, .int (1 : Int32)), (0, .ref 19), (1, .int p1), (2, .int p2), (3, .int p3)], [.int (-1 : Int32)], (W9 N C E F P Q (te, tk, ta, tb, tn, td) G ((0 : Int32)) H B O J V Y Z O9), k, n)) (g := True ∧ True) (by with_unfolding_all rfl) ⟨trivial, trivial⟩ ?_
                  cases h
                  exact am_ev_ret 0 0 0 rfl .int rfl rfl rfl
                · rw [if_neg c8] at h
                  refine am_ev_neg c8 ?_
                  refine am_ev_st 4 (f' := am_br (p3 < te) 93 88 [(5, .int (1 : Int32)), (4, .int (1 : Int32)), (0, .ref 19), (1, .int p1), (2, .int p2), (3, .int p3)] [] (W9 N C E F P Q (te, tk, ta, tb, tn, td) G ((0 : Int32)) H B O J V Y Z O9) k n) (g := True ∧ True ∧ True ∧ True ∧ True) (by with_unfolding_all rfl) ⟨trivial, trivial, trivial, trivial, trivial⟩ ?_
                  by_cases c9 : p3 < te
                  · rw [if_pos c9] at h
                    refine am_ev_pos c9 ?_
                    by_cases g10 : (p2 < 0 ∨ 120 ≤ (p2).toNatClampNeg)
                    · rw [if_pos g10] at h; cases h
                    rw [if_neg g10] at h
                    by_cases g11 : (p3 < 0 ∨ 120 ≤ (p3).toNatClampNeg)
                    · rw [if_pos g11] at h; cases h
                    rw [if_neg g11] at h
                    by_cases g12 : (p2 < 0 ∨ 120 ≤ (p2).toNatClampNeg)
                    · rw [if_pos g12] at h; cases h
                    rw [if_neg g12] at h
                    by_cases g13 : (p3 < 0 ∨ 120 ≤ (p3).toNatClampNeg)
                    · rw [if_pos g13] at h; cases h
                    rw [if_neg g13] at h
                    refine am_ev_st 22 (f' := am_br ((td (p2).toNatClampNeg) ≤ (td (p3).toNatClampNeg)) 135 123 [(4, .int (((1 : Int32) + (tn (p2).toNatClampNeg)) + (tn (p3).toNatClampNeg))), (5, .int (1 : Int32)), (0, .ref 19), (1, .int p1), (2, .int p2), (3, .int p3)] [.int (1 : Int32)] (W9 N C E F P Q (te, tk, ta, tb, tn, td) G ((0 : Int32)) H B O J V Y Z O9) k n) (g := True ∧ True ∧ True ∧ True ∧ vp_in (p2) 120 ∧ True ∧ True ∧ True ∧ True ∧ vp_in (p3) 120 ∧ True ∧ True ∧ True ∧ True ∧ True ∧ True ∧ vp_in (p2) 120 ∧ True ∧ True ∧ True ∧ vp_in (p3) 120 ∧ True ∧ True) (by with_unfolding_all rfl) ⟨trivial, trivial, trivial, trivial, g10, trivial, trivial, trivial, trivial, g11, trivial, trivial, trivial, trivial, trivial, trivial, g12, trivial, trivial, trivial, g13, trivial, trivial⟩ ?_
                    by_cases c14 : (td (p2).toNatClampNeg) ≤ (td (p3).toNatClampNeg)
                    · rw [if_pos c14] at h
                      refine am_ev_pos c14 ?_
                      by_cases g15 : (p3 < 0 ∨ 120 ≤ (p3).toNatClampNeg)
                      · rw [if_pos g15] at h; cases h
                      rw [if_neg g15] at h
                      refine am_ev_st 9 (f' := am_br ((60 : Int32) < (((1 : Int32) + (tn (p2).toNatClampNeg)) + (tn (p3).toNatClampNeg))) 158 148 [(5, .int ((1 : Int32) + (td (p3).toNatClampNeg))), (4, .int (((1 : Int32) + (tn (p2).toNatClampNeg)) + (tn (p3).toNatClampNeg))), (0, .ref 19), (1, .int p1), (2, .int p2), (3, .int p3)] [] (W9 N C E F P Q (te, tk, ta, tb, tn, td) G ((0 : Int32)) H B O J V Y Z O9) k n) (g := True ∧ True ∧ True ∧ vp_in (p3) 120 ∧ True ∧ True ∧ True ∧ True ∧ True ∧ True) (by with_unfolding_all rfl) ⟨trivial, trivial, trivial, g15, trivial, trivial, trivial, trivial, trivial, trivial⟩ ?_
                      by_cases c16 : (60 : Int32) < (((1 : Int32) + (tn (p2).toNatClampNeg)) + (tn (p3).toNatClampNeg))
                      · rw [if_pos c16] at h
                        refine am_ev_pos c16 ?_
                        refine am_ev_st 1 (f' := (159, [(5, .int ((1 : Int32) + (td (p3).toNatClampNeg))), (4, .int (((1 : Int32) + (tn (p2).toNatClampNeg)) + (tn (p3).toNatClampNeg))), (0, .ref 19), (1, .int p1), (2, .int p2), (3, .int p3)], [.int (-1 : Int32)], (W9 N C E F P Q (te, tk, ta, tb, tn, td) G ((0 : Int32)) H B O J V Y Z O9), k, n)) (g := True ∧ True) (by with_unfolding_all rfl) ⟨trivial, trivial⟩ ?_
                        cases h
                        exact am_ev_ret 0 0 0 rfl .int rfl rfl rfl
                      · rw [if_neg c16] at h
                        refine am_ev_neg c16 ?_
                        refine am_ev_st 3 (f' := am_br (((1 : Int32) + (td (p3).toNatClampNeg)) ≤ (12 : Int32)) 160 155 [(5, .int ((1 : Int32) + (td (p3).toNatClampNeg))), (4, .int (((1 : Int32) + (tn (p2).toNatClampNeg)) + (tn (p3).toNatClampNeg))), (0, .ref 19), (1, .int p1), (2, .int p2), (3, .int p3)] [] (W9 N C E F P Q (te, tk, ta, tb, tn, td) G ((0 : Int32)) H B O J V Y Z O9) k n) (g := True ∧ True ∧ True ∧ True) (by with_unfolding_all rfl) ⟨trivial, trivial, trivial, trivial⟩ ?_
                        by_cases c17 : ((1 : Int32) + (td (p3).toNatClampNeg)) ≤ (12 : Int32)
                        · rw [if_pos c17] at h
                          refine am_ev_pos c17 ?_
                          by_cases g18 : (te < 0 ∨ 120 ≤ (te).toNatClampNeg)
                          · rw [if_pos g18] at h; cases h
                          rw [if_neg g18] at h
                          by_cases g19 : (te < 0 ∨ 120 ≤ (te).toNatClampNeg)
                          · rw [if_pos g19] at h; cases h
                          rw [if_neg g19] at h
                          refine am_ev_st 19 (f' := am_br (p1 < (2 : Int32)) 202 190 [(5, .int ((1 : Int32) + (td (p3).toNatClampNeg))), (4, .int (((1 : Int32) + (tn (p2).toNatClampNeg)) + (tn (p3).toNatClampNeg))), (0, .ref 19), (1, .int p1), (2, .int p2), (3, .int p3)] [.int te, .ref 22] (W9 N C E F P Q (te, (upd tk (te).toNatClampNeg p1), (upd ta (te).toNatClampNeg p2), tb, tn, td) G ((0 : Int32)) H B O J V Y Z O9) k n) (g := True ∧ True ∧ True ∧ True ∧ True ∧ vp_in (te) 120 ∧ True ∧ True ∧ True ∧ True ∧ True ∧ vp_in (te) 120 ∧ True ∧ True ∧ True ∧ True ∧ True ∧ True ∧ True ∧ True) (by with_unfolding_all rfl) ⟨trivial, trivial, trivial, trivial, trivial, g18, trivial, trivial, trivial, trivial, trivial, g19, trivial, trivial, trivial, trivial, trivial, trivial, trivial, trivial⟩ ?_
                          by_cases c20 : p1 < (2 : Int32)
                          · rw [if_pos c20] at h
                            refine am_ev_pos c20 ?_
                            by_cases g21 : (te < 0 ∨ 120 ≤ (te).toNatClampNeg)
                            · rw [if_pos g21] at h; cases h
                            rw [if_neg g21] at h
                            by_cases g22 : (te < 0 ∨ 120 ≤ (te).toNatClampNeg)
                            · rw [if_pos g22] at h; cases h
                            rw [if_neg g22] at h
                            by_cases g23 : (te < 0 ∨ 120 ≤ (te).toNatClampNeg)
                            · rw [if_pos g23] at h; cases h
                            rw [if_neg g23] at h
                            refine am_ev_st 24 (f' := (242, [(5, .int ((1 : Int32) + (td (p3).toNatClampNeg))), (4, .int (((1 : Int32) + (tn (p2).toNatClampNeg)) + (tn (p3).toNatClampNeg))), (0, .ref 19), (1, .int p1), (2, .int p2), (3, .int p3)], [.int ((te + (1 : Int32)) - (1 : Int32))], (W9 N C E F P Q ((te + (1 : Int32)), (upd tk (te).toNatClampNeg p1), (upd ta (te).toNatClampNeg p2), (upd tb (te).toNatClampNeg (-1 : Int32)), (upd tn (te).toNatClampNeg (((1 : Int32) + (tn (p2).toNatClampNeg)) + (tn (p3).toNatClampNeg))), (upd td (te).toNatClampNeg ((1 : Int32) + (td (p3).toNatClampNeg)))) G ((0 : Int32)) H B O J V Y Z O9), k, n)) (g := True ∧ vp_in (te) 120 ∧ True ∧ True ∧ True ∧ True ∧ True ∧ vp_in (te) 120 ∧ True ∧ True ∧ True ∧ True ∧ True ∧ vp_in (te) 120 ∧ True ∧ True ∧ True ∧ True ∧ True ∧ True ∧ True ∧ True ∧ True ∧ True ∧ True) (by with_unfolding_all rfl) ⟨trivial, g21, trivial, trivial, trivial, trivial, trivial, g22, trivial, trivial, trivial, trivial, trivial, g23, trivial, trivial, trivial, trivial, trivial, trivial, trivial, trivial, trivial, trivial, trivial⟩ ?_
                            cases h
                            exact am_ev_ret 0 0 0 rfl .int rfl rfl rfl
                          · rw [if_neg c20] at h
                            refine am_ev_neg c20 ?_
                            refine am_ev_st 3 (f' := am_br ((4 : Int32) < p1) 202 195 [(5, .int ((1 : Int32) + (td (p3).toNatClampNeg))), (4, .int (((1 : Int32) + (tn (p2).toNatClampNeg)) + (tn (p3).toNatClampNeg))), (0, .ref 19), (1, .int p1), (2, .int p2), (3, .int p3)] [.int te, .ref 22] (W9 N C E F P Q (te, (upd tk (te).toNatClampNeg p1), (upd ta (te).toNatClampNeg p2), tb, tn, td) G ((0 : Int32)) H B O J V Y Z O9) k n) (g := True ∧ True ∧ True ∧ True) (by with_unfolding_all rfl) ⟨trivial, trivial, trivial, trivial⟩ ?_
                            by_cases c24 : (4 : Int32) < p1
                            · rw [if_pos c24] at h
                              refine am_ev_pos c24 ?_
                              by_cases g25 : (te < 0 ∨ 120 ≤ (te).toNatClampNeg)
                              · rw [if_pos g25] at h; cases h
                              rw [if_neg g25] at h
                              by_cases g26 : (te < 0 ∨ 120 ≤ (te).toNatClampNeg)
                              · rw [if_pos g26] at h; cases h
                              rw [if_neg g26] at h
                              by_cases g27 : (te < 0 ∨ 120 ≤ (te).toNatClampNeg)
                              · rw [if_pos g27] at h; cases h
                              rw [if_neg g27] at h
                              refine am_ev_st 24 (f' := (242, [(5, .int ((1 : Int32) + (td (p3).toNatClampNeg))), (4, .int (((1 : Int32) + (tn (p2).toNatClampNeg)) + (tn (p3).toNatClampNeg))), (0, .ref 19), (1, .int p1), (2, .int p2), (3, .int p3)], [.int ((te + (1 : Int32)) - (1 : Int32))], (W9 N C E F P Q ((te + (1 : Int32)), (upd tk (te).toNatClampNeg p1), (upd ta (te).toNatClampNeg p2), (upd tb (te).toNatClampNeg (-1 : Int32)), (upd tn (te).toNatClampNeg (((1 : Int32) + (tn (p2).toNatClampNeg)) + (tn (p3).toNatClampNeg))), (upd td (te).toNatClampNeg ((1 : Int32) + (td (p3).toNatClampNeg)))) G ((0 : Int32)) H B O J V Y Z O9), k, n)) (g := True ∧ vp_in (te) 120 ∧ True ∧ True ∧ True ∧ True ∧ True ∧ vp_in (te) 120 ∧ True ∧ True ∧ True ∧ True ∧ True ∧ vp_in (te) 120 ∧ True ∧ True ∧ True ∧ True ∧ True ∧ True ∧ True ∧ True ∧ True ∧ True ∧ True) (by with_unfolding_all rfl) ⟨trivial, g25, trivial, trivial, trivial, trivial, trivial, g26, trivial, trivial, trivial, trivial, trivial, g27, trivial, trivial, trivial, trivial, trivial, trivial, trivial, trivial, trivial, trivial, trivial⟩ ?_
                              cases h
                              exact am_ev_ret 0 0 0 rfl .int rfl rfl rfl
                            · rw [if_neg c24] at h
                              refine am_ev_neg c24 ?_
                              by_cases g28 : (te < 0 ∨ 120 ≤ (te).toNatClampNeg)
                              · rw [if_pos g28] at h; cases h
                              rw [if_neg g28] at h
                              by_cases g29 : (te < 0 ∨ 120 ≤ (te).toNatClampNeg)
                              · rw [if_pos g29] at h; cases h
                              rw [if_neg g29] at h
                              by_cases g30 : (te < 0 ∨ 120 ≤ (te).toNatClampNeg)
                              · rw [if_pos g30] at h; cases h
                              rw [if_neg g30] at h
                              refine am_ev_st 25 (f' := (242, [(5, .int ((1 : Int32) + (td (p3).toNatClampNeg))), (4, .int (((1 : Int32) + (tn (p2).toNatClampNeg)) + (tn (p3).toNatClampNeg))), (0, .ref 19), (1, .int p1), (2, .int p2), (3, .int p3)], [.int ((te + (1 : Int32)) - (1 : Int32))], (W9 N C E F P Q ((te + (1 : Int32)), (upd tk (te).toNatClampNeg p1), (upd ta (te).toNatClampNeg p2), (upd tb (te).toNatClampNeg p3), (upd tn (te).toNatClampNeg (((1 : Int32) + (tn (p2).toNatClampNeg)) + (tn (p3).toNatClampNeg))), (upd td (te).toNatClampNeg ((1 : Int32) + (td (p3).toNatClampNeg)))) G ((0 : Int32)) H B O J V Y Z O9), k, n)) (g := True ∧ True ∧ vp_in (te) 120 ∧ True ∧ True ∧ True ∧ True ∧ True ∧ vp_in (te) 120 ∧ True ∧ True ∧ True ∧ True ∧ True ∧ vp_in (te) 120 ∧ True ∧ True ∧ True ∧ True ∧ True ∧ True ∧ True ∧ True ∧ True ∧ True ∧ True) (by with_unfolding_all rfl) ⟨trivial, trivial, g28, trivial, trivial, trivial, trivial, trivial, g29, trivial, trivial, trivial, trivial, trivial, g30, trivial, trivial, trivial, trivial, trivial, trivial, trivial, trivial, trivial, trivial, trivial⟩ ?_
                              cases h
                              exact am_ev_ret 0 0 0 rfl .int rfl rfl rfl
                        · rw [if_neg c17] at h
                          refine am_ev_neg c17 ?_
                          refine am_ev_st 1 (f' := (159, [(5, .int ((1 : Int32) + (td (p3).toNatClampNeg))), (4, .int (((1 : Int32) + (tn (p2).toNatClampNeg)) + (tn (p3).toNatClampNeg))), (0, .ref 19), (1, .int p1), (2, .int p2), (3, .int p3)], [.int (-1 : Int32)], (W9 N C E F P Q (te, tk, ta, tb, tn, td) G ((0 : Int32)) H B O J V Y Z O9), k, n)) (g := True ∧ True) (by with_unfolding_all rfl) ⟨trivial, trivial⟩ ?_
                          cases h
                          exact am_ev_ret 0 0 0 rfl .int rfl rfl rfl
                    · rw [if_neg c14] at h
                      refine am_ev_neg c14 ?_
                      by_cases g31 : (p2 < 0 ∨ 120 ≤ (p2).toNatClampNeg)
                      · rw [if_pos g31] at h; cases h
                      rw [if_neg g31] at h
                      refine am_ev_st 10 (f' := am_br ((60 : Int32) < (((1 : Int32) + (tn (p2).toNatClampNeg)) + (tn (p3).toNatClampNeg))) 158 148 [(5, .int ((1 : Int32) + (td (p2).toNatClampNeg))), (4, .int (((1 : Int32) + (tn (p2).toNatClampNeg)) + (tn (p3).toNatClampNeg))), (0, .ref 19), (1, .int p1), (2, .int p2), (3, .int p3)] [] (W9 N C E F P Q (te, tk, ta, tb, tn, td) G ((0 : Int32)) H B O J V Y Z O9) k n) (g := True ∧ True ∧ True ∧ vp_in (p2) 120 ∧ True ∧ True ∧ True ∧ True ∧ True ∧ True ∧ True) (by with_unfolding_all rfl) ⟨trivial, trivial, trivial, g31, trivial, trivial, trivial, trivial, trivial, trivial, trivial⟩ ?_
                      by_cases c32 : (60 : Int32) < (((1 : Int32) + (tn (p2).toNatClampNeg)) + (tn (p3).toNatClampNeg))
                      · rw [if_pos c32] at h
                        refine am_ev_pos c32 ?_
                        refine am_ev_st 1 (f' := (159, [(5, .int ((1 : Int32) + (td (p2).toNatClampNeg))), (4, .int (((1 : Int32) + (tn (p2).toNatClampNeg)) + (tn (p3).toNatClampNeg))), (0, .ref 19), (1, .int p1), (2, .int p2), (3, .int p3)], [.int (-1 : Int32)], (W9 N C E F P Q (te, tk, ta, tb, tn, td) G ((0 : Int32)) H B O J V Y Z O9), k, n)) (g := True ∧ True) (by with_unfolding_all rfl) ⟨trivial, trivial⟩ ?_
                        cases h
                        exact am_ev_ret 0 0 0 rfl .int rfl rfl rfl
                      · rw [if_neg c32] at h
                        refine am_ev_neg c32 ?_
                        refine am_ev_st 3 (f' := am_br (((1 : Int32) + (td (p2).toNatClampNeg)) ≤ (12 : Int32)) 160 155 [(5, .int ((1 : Int32) + (td (p2).toNatClampNeg))), (4, .int (((1 : Int32) + (tn (p2).toNatClampNeg)) + (tn (p3).toNatClampNeg))), (0, .ref 19), (1, .int p1), (2, .int p2), (3, .int p3)] [] (W9 N C E F P Q (te, tk, ta, tb, tn, td) G ((0 : Int32)) H B O J V Y Z O9) k n) (g := True ∧ True ∧ True ∧ True) (by with_unfolding_all rfl) ⟨trivial, trivial, trivial, trivial⟩ ?_
                        by_cases c33 : ((1 : Int32) + (td (p2).toNatClampNeg)) ≤ (12 : Int32)
                        · rw [if_pos c33] at h
                          refine am_ev_pos c33 ?_
                          by_cases g34 : (te < 0 ∨ 120 ≤ (te).toNatClampNeg)
                          · rw [if_pos g34] at h; cases h
                          rw [if_neg g34] at h
                          by_cases g35 : (te < 0 ∨ 120 ≤ (te).toNatClampNeg)
                          · rw [if_pos g35] at h; cases h
                          rw [if_neg g35] at h
                          refine am_ev_st 19 (f' := am_br (p1 < (2 : Int32)) 202 190 [(5, .int ((1 : Int32) + (td (p2).toNatClampNeg))), (4, .int (((1 : Int32) + (tn (p2).toNatClampNeg)) + (tn (p3).toNatClampNeg))), (0, .ref 19), (1, .int p1), (2, .int p2), (3, .int p3)] [.int te, .ref 22] (W9 N C E F P Q (te, (upd tk (te).toNatClampNeg p1), (upd ta (te).toNatClampNeg p2), tb, tn, td) G ((0 : Int32)) H B O J V Y Z O9) k n) (g := True ∧ True ∧ True ∧ True ∧ True ∧ vp_in (te) 120 ∧ True ∧ True ∧ True ∧ True ∧ True ∧ vp_in (te) 120 ∧ True ∧ True ∧ True ∧ True ∧ True ∧ True ∧ True ∧ True) (by with_unfolding_all rfl) ⟨trivial, trivial, trivial, trivial, trivial, g34, trivial, trivial, trivial, trivial, trivial, g35, trivial, trivial, trivial, trivial, trivial, trivial, trivial, trivial⟩ ?_
                          by_cases c36 : p1 < (2 : Int32)
                          · rw [if_pos c36] at h
                            refine am_ev_pos c36 ?_
                            by_cases g37 : (te < 0 ∨ 120 ≤ (te).toNatClampNeg)
                            · rw [if_pos g37] at h; cases h
                            rw [if_neg g37] at h
                            by_cases g38 : (te < 0 ∨ 120 ≤ (te).toNatClampNeg)
                            · rw [if_pos g38] at h; cases h
                            rw [if_neg g38] at h
                            by_cases g39 : (te < 0 ∨ 120 ≤ (te).toNatClampNeg)
                            · rw [if_pos g39] at h; cases h
                            rw [if_neg g39] at h
                            refine am_ev_st 24 (f' := (242, [(5, .int ((1 : Int32) + (td (p2).toNatClampNeg))), (4, .int (((1 : Int32) + (tn (p2).toNatClampNeg)) + (tn (p3).toNatClampNeg))), (0, .ref 19), (1, .int p1), (2, .int p2), (3, .int p3)], [.int ((te + (1 : Int32)) - (1 : Int32))], (W9 N C E F P Q ((te + (1 : Int32)), (upd tk (te).toNatClampNeg p1), (upd ta (te).toNatClampNeg p2), (upd tb (te).toNatClampNeg (-1 : Int32)), (upd tn (te).toNatClampNeg (((1 : Int32) + (tn (p2).toNatClampNeg)) + (tn (p3).toNatClampNeg))), (upd td (te).toNatClampNeg ((1 : Int32) + (td (p2).toNatClampNeg)))) G ((0 : Int32)) H B O J V Y Z O9), k, n)) (g := True ∧ vp_in (te) 120 ∧ True ∧ True ∧ True ∧ True ∧ True ∧ vp_in (te) 120 ∧ True ∧ True ∧ True ∧ True ∧ True ∧ vp_in (te) 120 ∧ True ∧ True ∧ True ∧ True ∧ True ∧ True ∧ True ∧ True ∧ True ∧ True ∧ True) (by with_unfolding_all rfl) ⟨trivial, g37, trivial, trivial, trivial, trivial, trivial, g38, trivial, trivial, trivial, trivial, trivial, g39, trivial, trivial, trivial, trivial, trivial, trivial, trivial, trivial, trivial, trivial, trivial⟩ ?_
                            cases h
                            exact am_ev_ret 0 0 0 rfl .int rfl rfl rfl
                          · rw [if_neg c36] at h
                            refine am_ev_neg c36 ?_
                            refine am_ev_st 3 (f' := am_br ((4 : Int32) < p1) 202 195 [(5, .int ((1 : Int32) + (td (p2).toNatClampNeg))), (4, .int (((1 : Int32) + (tn (p2).toNatClampNeg)) + (tn (p3).toNatClampNeg))), (0, .ref 19), (1, .int p1), (2, .int p2), (3, .int p3)] [.int te, .ref 22] (W9 N C E F P Q (te, (upd tk (te).toNatClampNeg p1), (upd ta (te).toNatClampNeg p2), tb, tn, td) G ((0 : Int32)) H B O J V Y Z O9) k n) (g := True ∧ True ∧ True ∧ True) (by with_unfolding_all rfl) ⟨trivial, trivial, trivial, trivial⟩ ?_
                            by_cases c40 : (4 : Int32) < p1
                            · rw [if_pos c40] at h
                              refine am_ev_pos c40 ?_
                              by_cases g41 : (te < 0 ∨ 120 ≤ (te).toNatClampNeg)
                              · rw [if_pos g41] at h; cases h
                              rw [if_neg g41] at h
                              by_cases g42 : (te < 0 ∨ 120 ≤ (te).toNatClampNeg)
                              · rw [if_pos g42] at h; cases h
                              rw [if_neg g42] at h
                              by_cases g43 : (te < 0 ∨ 120 ≤ (te).toNatClampNeg)
                              · rw [if_pos g43] at h; cases h
                              rw [if_neg g43] at h
                              refine am_ev_st 24 (f' := (242, [(5, .int ((1 : Int32) + (td (p2).toNatClampNeg))), (4, .int (((1 : Int32) + (tn (p2).toNatClampNeg)) + (tn (p3).toNatClampNeg))), (0, .ref 19), (1, .int p1), (2, .int p2), (3, .int p3)], [.int ((te + (1 : Int32)) - (1 : Int32))], (W9 N C E F P Q ((te + (1 : Int32)), (upd tk (te).toNatClampNeg p1), (upd ta (te).toNatClampNeg p2), (upd tb (te).toNatClampNeg (-1 : Int32)), (upd tn (te).toNatClampNeg (((1 : Int32) + (tn (p2).toNatClampNeg)) + (tn (p3).toNatClampNeg))), (upd td (te).toNatClampNeg ((1 : Int32) + (td (p2).toNatClampNeg)))) G ((0 : Int32)) H B O J V Y Z O9), k, n)) (g := True ∧ vp_in (te) 120 ∧ True ∧ True ∧ True ∧ True ∧ True ∧ vp_in (te) 120 ∧ True ∧ True ∧ True ∧ True ∧ True ∧ vp_in (te) 120 ∧ True ∧ True ∧ True ∧ True ∧ True ∧ True ∧ True ∧ True ∧ True ∧ True ∧ True) (by with_unfolding_all rfl) ⟨trivial, g41, trivial, trivial, trivial, trivial, trivial, g42, trivial, trivial, trivial, trivial, trivial, g43, trivial, trivial, trivial, trivial, trivial, trivial, trivial, trivial, trivial, trivial, trivial⟩ ?_
                              cases h
                              exact am_ev_ret 0 0 0 rfl .int rfl rfl rfl
                            · rw [if_neg c40] at h
                              refine am_ev_neg c40 ?_
                              by_cases g44 : (te < 0 ∨ 120 ≤ (te).toNatClampNeg)
                              · rw [if_pos g44] at h; cases h
                              rw [if_neg g44] at h
                              by_cases g45 : (te < 0 ∨ 120 ≤ (te).toNatClampNeg)
                              · rw [if_pos g45] at h; cases h
                              rw [if_neg g45] at h
                              by_cases g46 : (te < 0 ∨ 120 ≤ (te).toNatClampNeg)
                              · rw [if_pos g46] at h; cases h
                              rw [if_neg g46] at h
                              refine am_ev_st 25 (f' := (242, [(5, .int ((1 : Int32) + (td (p2).toNatClampNeg))), (4, .int (((1 : Int32) + (tn (p2).toNatClampNeg)) + (tn (p3).toNatClampNeg))), (0, .ref 19), (1, .int p1), (2, .int p2), (3, .int p3)], [.int ((te + (1 : Int32)) - (1 : Int32))], (W9 N C E F P Q ((te + (1 : Int32)), (upd tk (te).toNatClampNeg p1), (upd ta (te).toNatClampNeg p2), (upd tb (te).toNatClampNeg p3), (upd tn (te).toNatClampNeg (((1 : Int32) + (tn (p2).toNatClampNeg)) + (tn (p3).toNatClampNeg))), (upd td (te).toNatClampNeg ((1 : Int32) + (td (p2).toNatClampNeg)))) G ((0 : Int32)) H B O J V Y Z O9), k, n)) (g := True ∧ True ∧ vp_in (te) 120 ∧ True ∧ True ∧ True ∧ True ∧ True ∧ vp_in (te) 120 ∧ True ∧ True ∧ True ∧ True ∧ True ∧ vp_in (te) 120 ∧ True ∧ True ∧ True ∧ True ∧ True ∧ True ∧ True ∧ True ∧ True ∧ True ∧ True) (by with_unfolding_all rfl) ⟨trivial, trivial, g44, trivial, trivial, trivial, trivial, trivial, g45, trivial, trivial, trivial, trivial, trivial, g46, trivial, trivial, trivial, trivial, trivial, trivial, trivial, trivial, trivial, trivial, trivial⟩ ?_
                              cases h
                              exact am_ev_ret 0 0 0 rfl .int rfl rfl rfl
                        · rw [if_neg c33] at h
                          refine am_ev_neg c33 ?_
                          refine am_ev_st 1 (f' := (159, [(5, .int ((1 : Int32) + (td (p2).toNatClampNeg))), (4, .int (((1 : Int32) + (tn (p2).toNatClampNeg)) + (tn (p3).toNatClampNeg))), (0, .ref 19), (1, .int p1), (2, .int p2), (3, .int p3)], [.int (-1 : Int32)], (W9 N C E F P Q (te, tk, ta, tb, tn, td) G ((0 : Int32)) H B O J V Y Z O9), k, n)) (g := True ∧ True) (by with_unfolding_all rfl) ⟨trivial, trivial⟩ ?_
                          cases h
                          exact am_ev_ret 0 0 0 rfl .int rfl rfl rfl
                  · rw [if_neg c9] at h
                    refine am_ev_neg c9 ?_
                    refine am_ev_st 1 (f' := (92, [(5, .int (1 : Int32)), (4, .int (1 : Int32)), (0, .ref 19), (1, .int p1), (2, .int p2), (3, .int p3)], [.int (-1 : Int32)], (W9 N C E F P Q (te, tk, ta, tb, tn, td) G ((0 : Int32)) H B O J V Y Z O9), k, n)) (g := True ∧ True) (by with_unfolding_all rfl) ⟨trivial, trivial⟩ ?_
                    cases h
                    exact am_ev_ret 0 0 0 rfl .int rfl rfl rfl
          · rw [if_neg c5] at h
            refine am_ev_neg c5 ?_
            refine am_ev_st 2 (f' := am_br (p2 < 0) 65 54 [(5, .int (1 : Int32)), (4, .int (1 : Int32)), (0, .ref 19), (1, .int p1), (2, .int p2), (3, .int p3)] [] (W9 N C E F P Q (te, tk, ta, tb, tn, td) G ((0 : Int32)) H B O J V Y Z O9) k n) (g := True ∧ True ∧ True) (by with_unfolding_all rfl) ⟨trivial, trivial, trivial⟩ ?_
            by_cases c47 : p2 < 0
            · rw [if_pos c47] at h
              refine am_ev_pos c47 ?_
              refine am_ev_st 1 (f' := (66, [(5, .int (1 : Int32)), (4, .int (1 : Int32)), (0, .ref 19), (1, .int p1), (2, .int p2), (3, .int p3)], [.int (-1 : Int32)], (W9 N C E F P Q (te, tk, ta, tb, tn, td) G ((0 : Int32)) H B O J V Y Z O9), k, n)) (g := True ∧ True) (by with_unfolding_all rfl) ⟨trivial, trivial⟩ ?_
              cases h
              exact am_ev_ret 0 0 0 rfl .int rfl rfl rfl
            · rw [if_neg c47] at h
              refine am_ev_neg c47 ?_
              obtain ⟨gc, gb⟩ := G
              try dsimp only at h
              refine am_ev_st 4 (f' := am_br (p2 < gc) 144 62 [(5, .int (1 : Int32)), (4, .int (1 : Int32)), (0, .ref 19), (1, .int p1), (2, .int p2), (3, .int p3)] [] (W9 N C E F P Q (te, tk, ta, tb, tn, td) (gc, gb) ((0 : Int32)) H B O J V Y Z O9) k n) (g := True ∧ True ∧ True ∧ True ∧ True) (by with_unfolding_all rfl) ⟨trivial, trivial, trivial, trivial, trivial⟩ ?_
              by_cases c48 : p2 < gc
              · rw [if_pos c48] at h
                refine am_ev_pos c48 ?_
                refine am_ev_st 3 (f' := am_br ((60 : Int32) < (1 : Int32)) 158 148 [(5, .int (1 : Int32)), (4, .int (1 : Int32)), (0, .ref 19), (1, .int p1), (2, .int p2), (3, .int p3)] [] (W9 N C E F P Q (te, tk, ta, tb, tn, td) (gc, gb) ((0 : Int32)) H B O J V Y Z O9) k n) (g := True ∧ True ∧ True ∧ True) (by with_unfolding_all rfl) ⟨trivial, trivial, trivial, trivial⟩ ?_
                by_cases c49 : (60 : Int32) < (1 : Int32)
                · rw [if_pos c49] at h
                  refine am_ev_pos c49 ?_
                  refine am_ev_st 1 (f' := (159, [(5, .int (1 : Int32)), (4, .int (1 : Int32)), (0, .ref 19), (1, .int p1), (2, .int p2), (3, .int p3)], [.int (-1 : Int32)], (W9 N C E F P Q (te, tk, ta, tb, tn, td) (gc, gb) ((0 : Int32)) H B O J V Y Z O9), k, n)) (g := True ∧ True) (by with_unfolding_all rfl) ⟨trivial, trivial⟩ ?_
                  cases h
                  exact am_ev_ret 0 0 0 rfl .int rfl rfl rfl
                · rw [if_neg c49] at h
                  refine am_ev_neg c49 ?_
                  refine am_ev_st 3 (f' := am_br ((1 : Int32) ≤ (12 : Int32)) 160 155 [(5, .int (1 : Int32)), (4, .int (1 : Int32)), (0, .ref 19), (1, .int p1), (2, .int p2), (3, .int p3)] [] (W9 N C E F P Q (te, tk, ta, tb, tn, td) (gc, gb) ((0 : Int32)) H B O J V Y Z O9) k n) (g := True ∧ True ∧ True ∧ True) (by with_unfolding_all rfl) ⟨trivial, trivial, trivial, trivial⟩ ?_
                  by_cases c50 : (1 : Int32) ≤ (12 : Int32)
                  · rw [if_pos c50] at h
                    refine am_ev_pos c50 ?_
                    by_cases g51 : (te < 0 ∨ 120 ≤ (te).toNatClampNeg)
                    · rw [if_pos g51] at h; cases h
                    rw [if_neg g51] at h
                    by_cases g52 : (te < 0 ∨ 120 ≤ (te).toNatClampNeg)
                    · rw [if_pos g52] at h; cases h
                    rw [if_neg g52] at h
                    refine am_ev_st 19 (f' := am_br (p1 < (2 : Int32)) 202 190 [(5, .int (1 : Int32)), (4, .int (1 : Int32)), (0, .ref 19), (1, .int p1), (2, .int p2), (3, .int p3)] [.int te, .ref 22] (W9 N C E F P Q (te, (upd tk (te).toNatClampNeg p1), (upd ta (te).toNatClampNeg p2), tb, tn, td) (gc, gb) ((0 : Int32)) H B O J V Y Z O9) k n) (g := True ∧ True ∧ True ∧ True ∧ True ∧ vp_in (te) 120 ∧ True ∧ True ∧ True ∧ True ∧ True ∧ vp_in (te) 120 ∧ True ∧ True ∧ True ∧ True ∧ True ∧ True ∧ True ∧ True) (by with_unfolding_all rfl) ⟨trivial, trivial, trivial, trivial, trivial, g51, trivial, trivial, trivial, trivial, trivial, g52, trivial, trivial, trivial, trivial, trivial, trivial, trivial, trivial⟩ ?_
                    by_cases c53 : p1 < (2 : Int32)
                    · rw [if_pos c53] at h
                      refine am_ev_pos c53 ?_
                      by_cases g54 : (te < 0 ∨ 120 ≤ (te).toNatClampNeg)
                      · rw [if_pos g54] at h; cases h
                      rw [if_neg g54] at h
                      by_cases g55 : (te < 0 ∨ 120 ≤ (te).toNatClampNeg)
                      · rw [if_pos g55] at h; cases h
                      rw [if_neg g55] at h
                      by_cases g56 : (te < 0 ∨ 120 ≤ (te).toNatClampNeg)
                      · rw [if_pos g56] at h; cases h
                      rw [if_neg g56] at h
                      refine am_ev_st 24 (f' := (242, [(5, .int (1 : Int32)), (4, .int (1 : Int32)), (0, .ref 19), (1, .int p1), (2, .int p2), (3, .int p3)], [.int ((te + (1 : Int32)) - (1 : Int32))], (W9 N C E F P Q ((te + (1 : Int32)), (upd tk (te).toNatClampNeg p1), (upd ta (te).toNatClampNeg p2), (upd tb (te).toNatClampNeg (-1 : Int32)), (upd tn (te).toNatClampNeg (1 : Int32)), (upd td (te).toNatClampNeg (1 : Int32))) (gc, gb) ((0 : Int32)) H B O J V Y Z O9), k, n)) (g := True ∧ vp_in (te) 120 ∧ True ∧ True ∧ True ∧ True ∧ True ∧ vp_in (te) 120 ∧ True ∧ True ∧ True ∧ True ∧ True ∧ vp_in (te) 120 ∧ True ∧ True ∧ True ∧ True ∧ True ∧ True ∧ True ∧ True ∧ True ∧ True ∧ True) (by with_unfolding_all rfl) ⟨trivial, g54, trivial, trivial, trivial, trivial, trivial, g55, trivial, trivial, trivial, trivial, trivial, g56, trivial, trivial, trivial, trivial, trivial, trivial, trivial, trivial, trivial, trivial, trivial⟩ ?_
                      cases h
                      exact am_ev_ret 0 0 0 rfl .int rfl rfl rfl
                    · rw [if_neg c53] at h
                      refine am_ev_neg c53 ?_
                      refine am_ev_st 3 (f' := am_br ((4 : Int32) < p1) 202 195 [(5, .int (1 : Int32)), (4, .int (1 : Int32)), (0, .ref 19), (1, .int p1), (2, .int p2), (3, .int p3)] [.int te, .ref 22] (W9 N C E F P Q (te, (upd tk (te).toNatClampNeg p1), (upd ta (te).toNatClampNeg p2), tb, tn, td) (gc, gb) ((0 : Int32)) H B O J V Y Z O9) k n) (g := True ∧ True ∧ True ∧ True) (by with_unfolding_all rfl) ⟨trivial, trivial, trivial, trivial⟩ ?_
                      by_cases c57 : (4 : Int32) < p1
                      · rw [if_pos c57] at h
                        refine am_ev_pos c57 ?_
                        by_cases g58 : (te < 0 ∨ 120 ≤ (te).toNatClampNeg)
                        · rw [if_pos g58] at h; cases h
                        rw [if_neg g58] at h
                        by_cases g59 : (te < 0 ∨ 120 ≤ (te).toNatClampNeg)
                        · rw [if_pos g59] at h; cases h
                        rw [if_neg g59] at h
                        by_cases g60 : (te < 0 ∨ 120 ≤ (te).toNatClampNeg)
                        · rw [if_pos g60] at h; cases h
                        rw [if_neg g60] at h
                        refine am_ev_st 24 (f' := (242, [(5, .int (1 : Int32)), (4, .int (1 : Int32)), (0, .ref 19), (1, .int p1), (2, .int p2), (3, .int p3)], [.int ((te + (1 : Int32)) - (1 : Int32))], (W9 N C E F P Q ((te + (1 : Int32)), (upd tk (te).toNatClampNeg p1), (upd ta (te).toNatClampNeg p2), (upd tb (te).toNatClampNeg (-1 : Int32)), (upd tn (te).toNatClampNeg (1 : Int32)), (upd td (te).toNatClampNeg (1 : Int32))) (gc, gb) ((0 : Int32)) H B O J V Y Z O9), k, n)) (g := True ∧ vp_in (te) 120 ∧ True ∧ True ∧ True ∧ True ∧ True ∧ vp_in (te) 120 ∧ True ∧ True ∧ True ∧ True ∧ True ∧ vp_in (te) 120 ∧ True ∧ True ∧ True ∧ True ∧ True ∧ True ∧ True ∧ True ∧ True ∧ True ∧ True) (by with_unfolding_all rfl) ⟨trivial, g58, trivial, trivial, trivial, trivial, trivial, g59, trivial, trivial, trivial, trivial, trivial, g60, trivial, trivial, trivial, trivial, trivial, trivial, trivial, trivial, trivial, trivial, trivial⟩ ?_
                        cases h
                        exact am_ev_ret 0 0 0 rfl .int rfl rfl rfl
                      · rw [if_neg c57] at h
                        refine am_ev_neg c57 ?_
                        by_cases g61 : (te < 0 ∨ 120 ≤ (te).toNatClampNeg)
                        · rw [if_pos g61] at h; cases h
                        rw [if_neg g61] at h
                        by_cases g62 : (te < 0 ∨ 120 ≤ (te).toNatClampNeg)
                        · rw [if_pos g62] at h; cases h
                        rw [if_neg g62] at h
                        by_cases g63 : (te < 0 ∨ 120 ≤ (te).toNatClampNeg)
                        · rw [if_pos g63] at h; cases h
                        rw [if_neg g63] at h
                        refine am_ev_st 25 (f' := (242, [(5, .int (1 : Int32)), (4, .int (1 : Int32)), (0, .ref 19), (1, .int p1), (2, .int p2), (3, .int p3)], [.int ((te + (1 : Int32)) - (1 : Int32))], (W9 N C E F P Q ((te + (1 : Int32)), (upd tk (te).toNatClampNeg p1), (upd ta (te).toNatClampNeg p2), (upd tb (te).toNatClampNeg p3), (upd tn (te).toNatClampNeg (1 : Int32)), (upd td (te).toNatClampNeg (1 : Int32))) (gc, gb) ((0 : Int32)) H B O J V Y Z O9), k, n)) (g := True ∧ True ∧ vp_in (te) 120 ∧ True ∧ True ∧ True ∧ True ∧ True ∧ vp_in (te) 120 ∧ True ∧ True ∧ True ∧ True ∧ True ∧ vp_in (te) 120 ∧ True ∧ True ∧ True ∧ True ∧ True ∧ True ∧ True ∧ True ∧ True ∧ True ∧ True) (by with_unfolding_all rfl) ⟨trivial, trivial, g61, trivial, trivial, trivial, trivial, trivial, g62, trivial, trivial, trivial, trivial, trivial, g63, trivial, trivial, trivial, trivial, trivial, trivial, trivial, trivial, trivial, trivial, trivial⟩ ?_
                        cases h
                        exact am_ev_ret 0 0 0 rfl .int rfl rfl rfl
                  · rw [if_neg c50] at h
                    refine am_ev_neg c50 ?_
                    refine am_ev_st 1 (f' := (159, [(5, .int (1 : Int32)), (4, .int (1 : Int32)), (0, .ref 19), (1, .int p1), (2, .int p2), (3, .int p3)], [.int (-1 : Int32)], (W9 N C E F P Q (te, tk, ta, tb, tn, td) (gc, gb) ((0 : Int32)) H B O J V Y Z O9), k, n)) (g := True ∧ True) (by with_unfolding_all rfl) ⟨trivial, trivial⟩ ?_
                    cases h
                    exact am_ev_ret 0 0 0 rfl .int rfl rfl rfl
              · rw [if_neg c48] at h
                refine am_ev_neg c48 ?_
                refine am_ev_st 1 (f' := (66, [(5, .int (1 : Int32)), (4, .int (1 : Int32)), (0, .ref 19), (1, .int p1), (2, .int p2), (3, .int p3)], [.int (-1 : Int32)], (W9 N C E F P Q (te, tk, ta, tb, tn, td) (gc, gb) ((0 : Int32)) H B O J V Y Z O9), k, n)) (g := True ∧ True) (by with_unfolding_all rfl) ⟨trivial, trivial⟩ ?_
                cases h
                exact am_ev_ret 0 0 0 rfl .int rfl rfl rfl
        · rw [if_neg c4] at h
          refine am_ev_neg c4 ?_
          refine am_ev_st 2 (f' := am_br (p2 < 0) 46 37 [(5, .int (1 : Int32)), (4, .int (1 : Int32)), (0, .ref 19), (1, .int p1), (2, .int p2), (3, .int p3)] [] (W9 N C E F P Q (te, tk, ta, tb, tn, td) G ((0 : Int32)) H B O J V Y Z O9) k n) (g := True ∧ True ∧ True) (by with_unfolding_all rfl) ⟨trivial, trivial, trivial⟩ ?_
          by_cases c64 : p2 < 0
          · rw [if_pos c64] at h
            refine am_ev_pos c64 ?_
            refine am_ev_st 1 (f' := (47, [(5, .int (1 : Int32)), (4, .int (1 : Int32)), (0, .ref 19), (1, .int p1), (2, .int p2), (3, .int p3)], [.int (-1 : Int32)], (W9 N C E F P Q (te, tk, ta, tb, tn, td) G ((0 : Int32)) H B O J V Y Z O9), k, n)) (g := True ∧ True) (by with_unfolding_all rfl) ⟨trivial, trivial⟩ ?_
            cases h
            exact am_ev_ret 0 0 0 rfl .int rfl rfl rfl
          · rw [if_neg c64] at h
            refine am_ev_neg c64 ?_
            refine am_ev_st 3 (f' := am_br (p2 ≤ (9 : Int32)) 144 43 [(5, .int (1 : Int32)), (4, .int (1 : Int32)), (0, .ref 19), (1, .int p1), (2, .int p2), (3, .int p3)] [] (W9 N C E F P Q (te, tk, ta, tb, tn, td) G ((0 : Int32)) H B O J V Y Z O9) k n) (g := True ∧ True ∧ True ∧ True) (by with_unfolding_all rfl) ⟨trivial, trivial, trivial, trivial⟩ ?_
            by_cases c65 : p2 ≤ (9 : Int32)
            · rw [if_pos c65] at h
              refine am_ev_pos c65 ?_
              refine am_ev_st 3 (f' := am_br ((60 : Int32) < (1 : Int32)) 158 148 [(5, .int (1 : Int32)), (4, .int (1 : Int32)), (0, .ref 19), (1, .int p1), (2, .int p2), (3, .int p3)] [] (W9 N C E F P Q (te, tk, ta, tb, tn, td) G ((0 : Int32)) H B O J V Y Z O9) k n) (g := True ∧ True ∧ True ∧ True) (by with_unfolding_all rfl) ⟨trivial, trivial, trivial, trivial⟩ ?_
              by_cases c66 : (60 : Int32) < (1 : Int32)
              · rw [if_pos c66] at h
                refine am_ev_pos c66 ?_
                refine am_ev_st 1 (f' := (159, [(5, .int (1 : Int32)), (4, .int (1 : Int32)), (0, .ref 19), (1, .int p1), (2, .int p2), (3, .int p3)], [.int (-1 : Int32)], (W9 N C E F P Q (te, tk, ta, tb, tn, td) G ((0 : Int32)) H B O J V Y Z O9), k, n)) (g := True ∧ True) (by with_unfolding_all rfl) ⟨trivial, trivial⟩ ?_
                cases h
                exact am_ev_ret 0 0 0 rfl .int rfl rfl rfl
              · rw [if_neg c66] at h
                refine am_ev_neg c66 ?_
                refine am_ev_st 3 (f' := am_br ((1 : Int32) ≤ (12 : Int32)) 160 155 [(5, .int (1 : Int32)), (4, .int (1 : Int32)), (0, .ref 19), (1, .int p1), (2, .int p2), (3, .int p3)] [] (W9 N C E F P Q (te, tk, ta, tb, tn, td) G ((0 : Int32)) H B O J V Y Z O9) k n) (g := True ∧ True ∧ True ∧ True) (by with_unfolding_all rfl) ⟨trivial, trivial, trivial, trivial⟩ ?_
                by_cases c67 : (1 : Int32) ≤ (12 : Int32)
                · rw [if_pos c67] at h
                  refine am_ev_pos c67 ?_
                  by_cases g68 : (te < 0 ∨ 120 ≤ (te).toNatClampNeg)
                  · rw [if_pos g68] at h; cases h
                  rw [if_neg g68] at h
                  by_cases g69 : (te < 0 ∨ 120 ≤ (te).toNatClampNeg)
                  · rw [if_pos g69] at h; cases h
                  rw [if_neg g69] at h
                  refine am_ev_st 19 (f' := am_br (p1 < (2 : Int32)) 202 190 [(5, .int (1 : Int32)), (4, .int (1 : Int32)), (0, .ref 19), (1, .int p1), (2, .int p2), (3, .int p3)] [.int te, .ref 22] (W9 N C E F P Q (te, (upd tk (te).toNatClampNeg p1), (upd ta (te).toNatClampNeg p2), tb, tn, td) G ((0 : Int32)) H B O J V Y Z O9) k n) (g := True ∧ True ∧ True ∧ True ∧ True ∧ vp_in (te) 120 ∧ True ∧ True ∧ True ∧ True ∧ True ∧ vp_in (te) 120 ∧ True ∧ True ∧ True ∧ True ∧ True ∧ True ∧ True ∧ True) (by with_unfolding_all rfl) ⟨trivial, trivial, trivial, trivial, trivial, g68, trivial, trivial, trivial, trivial, trivial, g69, trivial, trivial, trivial, trivial, trivial, trivial, trivial, trivial⟩ ?_
                  by_cases c70 : p1 < (2 : Int32)
                  · rw [if_pos c70] at h
                    refine am_ev_pos c70 ?_
                    by_cases g71 : (te < 0 ∨ 120 ≤ (te).toNatClampNeg)
                    · rw [if_pos g71] at h; cases h
                    rw [if_neg g71] at h
                    by_cases g72 : (te < 0 ∨ 120 ≤ (te).toNatClampNeg)
                    · rw [if_pos g72] at h; cases h
                    rw [if_neg g72] at h
                    by_cases g73 : (te < 0 ∨ 120 ≤ (te).toNatClampNeg)
                    · rw [if_pos g73] at h; cases h
                    rw [if_neg g73] at h
                    refine am_ev_st 24 (f' := (242, [(5, .int (1 : Int32)), (4, .int (1 : Int32)), (0, .ref 19), (1, .int p1), (2, .int p2), (3, .int p3)], [.int ((te + (1 : Int32)) - (1 : Int32))], (W9 N C E F P Q ((te + (1 : Int32)), (upd tk (te).toNatClampNeg p1), (upd ta (te).toNatClampNeg p2), (upd tb (te).toNatClampNeg (-1 : Int32)), (upd tn (te).toNatClampNeg (1 : Int32)), (upd td (te).toNatClampNeg (1 : Int32))) G ((0 : Int32)) H B O J V Y Z O9), k, n)) (g := True ∧ vp_in (te) 120 ∧ True ∧ True ∧ True ∧ True ∧ True ∧ vp_in (te) 120 ∧ True ∧ True ∧ True ∧ True ∧ True ∧ vp_in (te) 120 ∧ True ∧ True ∧ True ∧ True ∧ True ∧ True ∧ True ∧ True ∧ True ∧ True ∧ True) (by with_unfolding_all rfl) ⟨trivial, g71, trivial, trivial, trivial, trivial, trivial, g72, trivial, trivial, trivial, trivial, trivial, g73, trivial, trivial, trivial, trivial, trivial, trivial, trivial, trivial, trivial, trivial, trivial⟩ ?_
                    cases h
                    exact am_ev_ret 0 0 0 rfl .int rfl rfl rfl
                  · rw [if_neg c70] at h
                    refine am_ev_neg c70 ?_
                    refine am_ev_st 3 (f' := am_br ((4 : Int32) < p1) 202 195 [(5, .int (1 : Int32)), (4, .int (1 : Int32)), (0, .ref 19), (1, .int p1), (2, .int p2), (3, .int p3)] [.int te, .ref 22] (W9 N C E F P Q (te, (upd tk (te).toNatClampNeg p1), (upd ta (te).toNatClampNeg p2), tb, tn, td) G ((0 : Int32)) H B O J V Y Z O9) k n) (g := True ∧ True ∧ True ∧ True) (by with_unfolding_all rfl) ⟨trivial, trivial, trivial, trivial⟩ ?_
                    by_cases c74 : (4 : Int32) < p1
                    · rw [if_pos c74] at h
                      refine am_ev_pos c74 ?_
                      by_cases g75 : (te < 0 ∨ 120 ≤ (te).toNatClampNeg)
                      · rw [if_pos g75] at h; cases h
                      rw [if_neg g75] at h
                      by_cases g76 : (te < 0 ∨ 120 ≤ (te).toNatClampNeg)
                      · rw [if_pos g76] at h; cases h
                      rw [if_neg g76] at h
                      by_cases g77 : (te < 0 ∨ 120 ≤ (te).toNatClampNeg)
                      · rw [if_pos g77] at h; cases h
                      rw [if_neg g77] at h
                      refine am_ev_st 24 (f' := (242, [(5, .int (1 : Int32)), (4, .int (1 : Int32)), (0, .ref 19), (1, .int p1), (2, .int p2), (3, .int p3)], [.int ((te + (1 : Int32)) - (1 : Int32))], (W9 N C E F P Q ((te + (1 : Int32)), (upd tk (te).toNatClampNeg p1), (upd ta (te).toNatClampNeg p2), (upd tb (te).toNatClampNeg (-1 : Int32)), (upd tn (te).toNatClampNeg (1 : Int32)), (upd td (te).toNatClampNeg (1 : Int32))) G ((0 : Int32)) H B O J V Y Z O9), k, n)) (g := True ∧ vp_in (te) 120 ∧ True ∧ True ∧ True ∧ True ∧ True ∧ vp_in (te) 120 ∧ True ∧ True ∧ True ∧ True ∧ True ∧ vp_in (te) 120 ∧ True ∧ True ∧ True ∧ True ∧ True ∧ True ∧ True ∧ True ∧ True ∧ True ∧ True) (by with_unfolding_all rfl) ⟨trivial, g75, trivial, trivial, trivial, trivial, trivial, g76, trivial, trivial, trivial, trivial, trivial, g77, trivial, trivial, trivial, trivial, trivial, trivial, trivial, trivial, trivial, trivial, trivial⟩ ?_
                      cases h
                      exact am_ev_ret 0 0 0 rfl .int rfl rfl rfl
                    · rw [if_neg c74] at h
                      refine am_ev_neg c74 ?_
                      by_cases g78 : (te < 0 ∨ 120 ≤ (te).toNatClampNeg)
                      · rw [if_pos g78] at h; cases h
                      rw [if_neg g78] at h
                      by_cases g79 : (te < 0 ∨ 120 ≤ (te).toNatClampNeg)
                      · rw [if_pos g79] at h; cases h
                      rw [if_neg g79] at h
                      by_cases g80 : (te < 0 ∨ 120 ≤ (te).toNatClampNeg)
                      · rw [if_pos g80] at h; cases h
                      rw [if_neg g80] at h
                      refine am_ev_st 25 (f' := (242, [(5, .int (1 : Int32)), (4, .int (1 : Int32)), (0, .ref 19), (1, .int p1), (2, .int p2), (3, .int p3)], [.int ((te + (1 : Int32)) - (1 : Int32))], (W9 N C E F P Q ((te + (1 : Int32)), (upd tk (te).toNatClampNeg p1), (upd ta (te).toNatClampNeg p2), (upd tb (te).toNatClampNeg p3), (upd tn (te).toNatClampNeg (1 : Int32)), (upd td (te).toNatClampNeg (1 : Int32))) G ((0 : Int32)) H B O J V Y Z O9), k, n)) (g := True ∧ True ∧ vp_in (te) 120 ∧ True ∧ True ∧ True ∧ True ∧ True ∧ vp_in (te) 120 ∧ True ∧ True ∧ True ∧ True ∧ True ∧ vp_in (te) 120 ∧ True ∧ True ∧ True ∧ True ∧ True ∧ True ∧ True ∧ True ∧ True ∧ True ∧ True) (by with_unfolding_all rfl) ⟨trivial, trivial, g78, trivial, trivial, trivial, trivial, trivial, g79, trivial, trivial, trivial, trivial, trivial, g80, trivial, trivial, trivial, trivial, trivial, trivial, trivial, trivial, trivial, trivial, trivial⟩ ?_
                      cases h
                      exact am_ev_ret 0 0 0 rfl .int rfl rfl rfl
                · rw [if_neg c67] at h
                  refine am_ev_neg c67 ?_
                  refine am_ev_st 1 (f' := (159, [(5, .int (1 : Int32)), (4, .int (1 : Int32)), (0, .ref 19), (1, .int p1), (2, .int p2), (3, .int p3)], [.int (-1 : Int32)], (W9 N C E F P Q (te, tk, ta, tb, tn, td) G ((0 : Int32)) H B O J V Y Z O9), k, n)) (g := True ∧ True) (by with_unfolding_all rfl) ⟨trivial, trivial⟩ ?_
                  cases h
                  exact am_ev_ret 0 0 0 rfl .int rfl rfl rfl
            · rw [if_neg c65] at h
              refine am_ev_neg c65 ?_
              refine am_ev_st 1 (f' := (47, [(5, .int (1 : Int32)), (4, .int (1 : Int32)), (0, .ref 19), (1, .int p1), (2, .int p2), (3, .int p3)], [.int (-1 : Int32)], (W9 N C E F P Q (te, tk, ta, tb, tn, td) G ((0 : Int32)) H B O J V Y Z O9), k, n)) (g := True ∧ True) (by with_unfolding_all rfl) ⟨trivial, trivial⟩ ?_
              cases h
              exact am_ev_ret 0 0 0 rfl .int rfl rfl rfl
      · rw [if_neg c3] at h
        refine am_ev_neg c3 ?_
        refine am_ev_st 1 (f' := (24, [(0, .ref 19), (1, .int p1), (2, .int p2), (3, .int p3)], [.int (-1 : Int32)], (W9 N C E F P Q (te, tk, ta, tb, tn, td) G ((0 : Int32)) H B O J V Y Z O9), k, n)) (g := True ∧ True) (by with_unfolding_all rfl) ⟨trivial, trivial⟩ ?_
        cases h
        exact am_ev_ret 0 0 0 rfl .int rfl rfl rfl
def fm_terms (T : cT) (U : cU) : Option (Int32 × cU) :=
  match T with
  | (te, tk, ta, tb, tn, td) =>
  some (te, ((0 : Int32)))
set_option maxHeartbeats 4000000 in
set_option maxRecDepth 100000 in
theorem ok_fm_terms  {N : cN} {C : cC} {E : cE} {F : cF} {P : cP} {Q : cQ} {T : cT} {G : cG} {U : cU} {H : cH} {B : cB} {O : cO} {J : cJ} {V : cV} {Y : cY} {Z : cZ} {O9 : cO9} {k n : Nat} {rv : Int32} {U' : cU} (h : fm_terms T U = some (rv, U')) (D : Nat) (hD : 1 ≤ D) : am_Call D 106 [.ref 19] (W9 N C E F P Q T G U H B O J V Y Z O9) k n (.inl (some (.int rv)), W9 N C E F P Q T G U' H B O J V Y Z O9, k, n) := by
  unfold fm_terms at h
  obtain ⟨D, rfl⟩ : ∃ D', D = D' + 1 := ⟨D - 1, by omega⟩
  have hD : 0 ≤ D := by omega
  refine am_call_run (by decide) (by decide) rfl (Nat.le_of_ble_eq_true rfl) (by decide) (L := [(0, .ref 19)]) rfl ?_
  obtain ⟨te, tk, ta, tb, tn, td⟩ := T
  try dsimp only at h
  refine am_ev_st 5 (f' := (9, [(0, .ref 19)], [.int te], (W9 N C E F P Q (te, tk, ta, tb, tn, td) G ((0 : Int32)) H B O J V Y Z O9), k, n)) (g := True ∧ True ∧ True ∧ True ∧ True ∧ True) (by with_unfolding_all rfl) ⟨trivial, trivial, trivial, trivial, trivial, trivial⟩ ?_
  cases h
  exact am_ev_ret 0 0 0 rfl .int rfl rfl rfl
def fm_isTerm (T : cT) (p1 : Int32) : Option (Bool) :=
  if p1 < 0 then
  (some false)
  else
  match T with
  | (te, tk, ta, tb, tn, td) =>
  if te ≤ p1 then
  (some false)
  else
  some true
set_option maxHeartbeats 4000000 in
set_option maxRecDepth 100000 in
theorem ok_fm_isTerm  {N : cN} {C : cC} {E : cE} {F : cF} {P : cP} {Q : cQ} {T : cT} {G : cG} {U : cU} {H : cH} {B : cB} {O : cO} {J : cJ} {V : cV} {Y : cY} {Z : cZ} {O9 : cO9} {k n : Nat} {p1 : Int32} {rv : Bool} (h : fm_isTerm T p1 = some rv) (D : Nat) (hD : 1 ≤ D) : am_Call D 107 [.ref 19, .int p1] (W9 N C E F P Q T G U H B O J V Y Z O9) k n (.inl (some (.int (am_bz rv))), W9 N C E F P Q T G U H B O J V Y Z O9, k, n) := by
  unfold fm_isTerm at h
  obtain ⟨D, rfl⟩ : ∃ D', D = D' + 1 := ⟨D - 1, by omega⟩
  have hD : 0 ≤ D := by omega
  refine am_call_run (by decide) (by decide) rfl (Nat.le_of_ble_eq_true rfl) (by decide) (L := [(0, .ref 19), (1, .int p1)]) rfl ?_
  refine am_ev_st 2 (f' := am_br (p1 < 0) 16 1 [(0, .ref 19), (1, .int p1)] [] (W9 N C E F P Q T G U H B O J V Y Z O9) k n) (g := True ∧ True ∧ True) (by with_unfolding_all rfl) ⟨trivial, trivial, trivial⟩ ?_
  by_cases c1 : p1 < 0
  · rw [if_pos c1] at h
    refine am_ev_pos c1 ?_
    refine am_ev_st 1 (f' := (17, [(0, .ref 19), (1, .int p1)], [.int (0 : Int32)], (W9 N C E F P Q T G U H B O J V Y Z O9), k, n)) (g := True ∧ True) (by with_unfolding_all rfl) ⟨trivial, trivial⟩ ?_
    cases h
    exact am_ev_ret 0 0 0 rfl .boolean rfl am_n0 rfl
  · rw [if_neg c1] at h
    refine am_ev_neg c1 ?_
    obtain ⟨te, tk, ta, tb, tn, td⟩ := T
    try dsimp only at h
    refine am_ev_st 4 (f' := am_br (te ≤ p1) 16 9 [(0, .ref 19), (1, .int p1)] [] (W9 N C E F P Q (te, tk, ta, tb, tn, td) G U H B O J V Y Z O9) k n) (g := True ∧ True ∧ True ∧ True ∧ True) (by with_unfolding_all rfl) ⟨trivial, trivial, trivial, trivial, trivial⟩ ?_
    by_cases c2 : te ≤ p1
    · rw [if_pos c2] at h
      refine am_ev_pos c2 ?_
      refine am_ev_st 1 (f' := (17, [(0, .ref 19), (1, .int p1)], [.int (0 : Int32)], (W9 N C E F P Q (te, tk, ta, tb, tn, td) G U H B O J V Y Z O9), k, n)) (g := True ∧ True) (by with_unfolding_all rfl) ⟨trivial, trivial⟩ ?_
      cases h
      exact am_ev_ret 0 0 0 rfl .boolean rfl am_n0 rfl
    · rw [if_neg c2] at h
      refine am_ev_neg c2 ?_
      refine am_ev_st 2 (f' := (17, [(0, .ref 19), (1, .int p1)], [.int (1 : Int32)], (W9 N C E F P Q (te, tk, ta, tb, tn, td) G U H B O J V Y Z O9), k, n)) (g := True ∧ True ∧ True) (by with_unfolding_all rfl) ⟨trivial, trivial, trivial⟩ ?_
      cases h
      exact am_ev_ret 0 0 0 rfl .boolean rfl am_n1 rfl
def fm_term (T : cT) (U : cU) (p1 p2 : Int32) : Option (Int32 × cU) :=
  (fm_isTerm T p1).bind fun z1 =>
  match z1 with
  | (r1) =>
  if (am_bz r1) ≠ 0 then
  (if p2 = (0 : Int32) then
  (match T with
  | (te, tk, ta, tb, tn, td) =>
  if (p1 < 0 ∨ 120 ≤ (p1).toNatClampNeg) then none else
  some ((tk (p1).toNatClampNeg), ((0 : Int32))))
  else
  if p2 = (1 : Int32) then
  (match T with
  | (te, tk, ta, tb, tn, td) =>
  if (p1 < 0 ∨ 120 ≤ (p1).toNatClampNeg) then none else
  some ((ta (p1).toNatClampNeg), ((0 : Int32))))
  else
  if p2 = (2 : Int32) then
  (match T with
  | (te, tk, ta, tb, tn, td) =>
  if (p1 < 0 ∨ 120 ≤ (p1).toNatClampNeg) then none else
  some ((tb (p1).toNatClampNeg), ((0 : Int32))))
  else
  if p2 = (3 : Int32) then
  (match T with
  | (te, tk, ta, tb, tn, td) =>
  if (p1 < 0 ∨ 120 ≤ (p1).toNatClampNeg) then none else
  some ((tn (p1).toNatClampNeg), ((0 : Int32))))
  else
  if p2 = (4 : Int32) then
  (match T with
  | (te, tk, ta, tb, tn, td) =>
  if (p1 < 0 ∨ 120 ≤ (p1).toNatClampNeg) then none else
  some ((td (p1).toNatClampNeg), ((0 : Int32))))
  else
  some ((-1 : Int32), ((0 : Int32))))
  else
  some ((-1 : Int32), ((0 : Int32)))
set_option maxHeartbeats 4000000 in
set_option maxRecDepth 100000 in
theorem ok_fm_term  {N : cN} {C : cC} {E : cE} {F : cF} {P : cP} {Q : cQ} {T : cT} {G : cG} {U : cU} {H : cH} {B : cB} {O : cO} {J : cJ} {V : cV} {Y : cY} {Z : cZ} {O9 : cO9} {k n : Nat} {p1 p2 : Int32} {rv : Int32} {U' : cU} (h : fm_term T U p1 p2 = some (rv, U')) (D : Nat) (hD : 2 ≤ D) : am_Call D 108 [.ref 19, .int p1, .int p2] (W9 N C E F P Q T G U H B O J V Y Z O9) k n (.inl (some (.int rv)), W9 N C E F P Q T G U' H B O J V Y Z O9, k, n) := by
  unfold fm_term at h
  obtain ⟨D, rfl⟩ : ∃ D', D = D' + 1 := ⟨D - 1, by omega⟩
  have hD : 1 ≤ D := by omega
  refine am_call_run (by decide) (by decide) rfl (Nat.le_of_ble_eq_true rfl) (by decide) (L := [(0, .ref 19), (1, .int p1), (2, .int p2)]) rfl ?_
  refine am_ev_st 5 (f' := (7, [(0, .ref 19), (1, .int p1), (2, .int p2)], [.int p1, .ref 19], (W9 N C E F P Q T G ((0 : Int32)) H B O J V Y Z O9), k, n)) (g := True ∧ True ∧ True ∧ True ∧ True ∧ True) (by with_unfolding_all rfl) ⟨trivial, trivial, trivial, trivial, trivial, trivial⟩ ?_
  replace h := Option.bind_eq_some_iff.mp h
  obtain ⟨r1, hc1, h⟩ := h
  try dsimp only at h
  refine am_ev_call (.invokevirtual 193) 107 2 792 [.ref 19, .int p1] [] rfl rfl rfl rfl (ok_fm_isTerm hc1 D (by omega)) rfl ?_
  refine am_ev_st 1 (f' := am_br ((am_bz r1) ≠ 0) 15 10 [(0, .ref 19), (1, .int p1), (2, .int p2)] [] (W9 N C E F P Q T G ((0 : Int32)) H B O J V Y Z O9) k n) (g := True ∧ True) (by with_unfolding_all rfl) ⟨trivial, trivial⟩ ?_
  by_cases c2 : (am_bz r1) ≠ 0
  · rw [if_pos c2] at h
    refine am_ev_pos c2 ?_
    refine am_ev_st 2 (f' := ((am_tg [(0, 52), (1, 59), (2, 66), (3, 73), (4, 80)] 87 p2), [(0, .ref 19), (1, .int p1), (2, .int p2)], [], (W9 N C E F P Q T G ((0 : Int32)) H B O J V Y Z O9), k, n)) (g := True ∧ True ∧ True) (by with_unfolding_all rfl) ⟨trivial, trivial, trivial⟩ ?_
    by_cases c3 : p2 = (0 : Int32)
    · rw [if_pos c3] at h
      refine am_ev_sweq c3 ?_
      obtain ⟨te, tk, ta, tb, tn, td⟩ := T
      try dsimp only at h
      by_cases g4 : (p1 < 0 ∨ 120 ≤ (p1).toNatClampNeg)
      · rw [if_pos g4] at h; cases h
      rw [if_neg g4] at h
      refine am_ev_st 4 (f' := (58, [(0, .ref 19), (1, .int p1), (2, .int p2)], [.int (tk (p1).toNatClampNeg)], (W9 N C E F P Q (te, tk, ta, tb, tn, td) G ((0 : Int32)) H B O J V Y Z O9), k, n)) (g := True ∧ True ∧ True ∧ vp_in (p1) 120 ∧ True) (by with_unfolding_all rfl) ⟨trivial, trivial, trivial, g4, trivial⟩ ?_
      cases h
      exact am_ev_ret 0 0 0 rfl .int rfl rfl rfl
    rw [if_neg c3] at h
    refine am_ev_swne c3 ?_
    by_cases c5 : p2 = (1 : Int32)
    · rw [if_pos c5] at h
      refine am_ev_sweq c5 ?_
      obtain ⟨te, tk, ta, tb, tn, td⟩ := T
      try dsimp only at h
      by_cases g6 : (p1 < 0 ∨ 120 ≤ (p1).toNatClampNeg)
      · rw [if_pos g6] at h; cases h
      rw [if_neg g6] at h
      refine am_ev_st 4 (f' := (65, [(0, .ref 19), (1, .int p1), (2, .int p2)], [.int (ta (p1).toNatClampNeg)], (W9 N C E F P Q (te, tk, ta, tb, tn, td) G ((0 : Int32)) H B O J V Y Z O9), k, n)) (g := True ∧ True ∧ True ∧ vp_in (p1) 120 ∧ True) (by with_unfolding_all rfl) ⟨trivial, trivial, trivial, g6, trivial⟩ ?_
      cases h
      exact am_ev_ret 0 0 0 rfl .int rfl rfl rfl
    rw [if_neg c5] at h
    refine am_ev_swne c5 ?_
    by_cases c7 : p2 = (2 : Int32)
    · rw [if_pos c7] at h
      refine am_ev_sweq c7 ?_
      obtain ⟨te, tk, ta, tb, tn, td⟩ := T
      try dsimp only at h
      by_cases g8 : (p1 < 0 ∨ 120 ≤ (p1).toNatClampNeg)
      · rw [if_pos g8] at h; cases h
      rw [if_neg g8] at h
      refine am_ev_st 4 (f' := (72, [(0, .ref 19), (1, .int p1), (2, .int p2)], [.int (tb (p1).toNatClampNeg)], (W9 N C E F P Q (te, tk, ta, tb, tn, td) G ((0 : Int32)) H B O J V Y Z O9), k, n)) (g := True ∧ True ∧ True ∧ vp_in (p1) 120 ∧ True) (by with_unfolding_all rfl) ⟨trivial, trivial, trivial, g8, trivial⟩ ?_
      cases h
      exact am_ev_ret 0 0 0 rfl .int rfl rfl rfl
    rw [if_neg c7] at h
    refine am_ev_swne c7 ?_
    by_cases c9 : p2 = (3 : Int32)
    · rw [if_pos c9] at h
      refine am_ev_sweq c9 ?_
      obtain ⟨te, tk, ta, tb, tn, td⟩ := T
      try dsimp only at h
      by_cases g10 : (p1 < 0 ∨ 120 ≤ (p1).toNatClampNeg)
      · rw [if_pos g10] at h; cases h
      rw [if_neg g10] at h
      refine am_ev_st 4 (f' := (79, [(0, .ref 19), (1, .int p1), (2, .int p2)], [.int (tn (p1).toNatClampNeg)], (W9 N C E F P Q (te, tk, ta, tb, tn, td) G ((0 : Int32)) H B O J V Y Z O9), k, n)) (g := True ∧ True ∧ True ∧ vp_in (p1) 120 ∧ True) (by with_unfolding_all rfl) ⟨trivial, trivial, trivial, g10, trivial⟩ ?_
      cases h
      exact am_ev_ret 0 0 0 rfl .int rfl rfl rfl
    rw [if_neg c9] at h
    refine am_ev_swne c9 ?_
    by_cases c11 : p2 = (4 : Int32)
    · rw [if_pos c11] at h
      refine am_ev_sweq c11 ?_
      obtain ⟨te, tk, ta, tb, tn, td⟩ := T
      try dsimp only at h
      by_cases g12 : (p1 < 0 ∨ 120 ≤ (p1).toNatClampNeg)
      · rw [if_pos g12] at h; cases h
      rw [if_neg g12] at h
      refine am_ev_st 4 (f' := (86, [(0, .ref 19), (1, .int p1), (2, .int p2)], [.int (td (p1).toNatClampNeg)], (W9 N C E F P Q (te, tk, ta, tb, tn, td) G ((0 : Int32)) H B O J V Y Z O9), k, n)) (g := True ∧ True ∧ True ∧ vp_in (p1) 120 ∧ True) (by with_unfolding_all rfl) ⟨trivial, trivial, trivial, g12, trivial⟩ ?_
      cases h
      exact am_ev_ret 0 0 0 rfl .int rfl rfl rfl
    rw [if_neg c11] at h
    refine am_ev_swne c11 ?_
    refine am_ev_sw0 ?_
    refine am_ev_st 1 (f' := (88, [(0, .ref 19), (1, .int p1), (2, .int p2)], [.int (-1 : Int32)], (W9 N C E F P Q T G ((0 : Int32)) H B O J V Y Z O9), k, n)) (g := True ∧ True) (by with_unfolding_all rfl) ⟨trivial, trivial⟩ ?_
    cases h
    exact am_ev_ret 0 0 0 rfl .int rfl rfl rfl
  · rw [if_neg c2] at h
    refine am_ev_neg c2 ?_
    refine am_ev_st 1 (f' := (14, [(0, .ref 19), (1, .int p1), (2, .int p2)], [.int (-1 : Int32)], (W9 N C E F P Q T G ((0 : Int32)) H B O J V Y Z O9), k, n)) (g := True ∧ True) (by with_unfolding_all rfl) ⟨trivial, trivial⟩ ?_
    cases h
    exact am_ev_ret 0 0 0 rfl .int rfl rfl rfl
