def fL_pick (p1 p2 : Int32) : Option (Int32) :=
  if ((p2 - (9 : Int32)) = 0) then none else
  if (p1 - p1 / (p2 - (9 : Int32)) * (p2 - (9 : Int32))) ≠ 0 then
  (if (p1 - p1 / (p2 - (9 : Int32)) * (p2 - (9 : Int32))) ≠ (1 : Int32) then
  (if (p1 - p1 / (p2 - (9 : Int32)) * (p2 - (9 : Int32))) ≠ (2 : Int32) then
  (if (p1 - p1 / (p2 - (9 : Int32)) * (p2 - (9 : Int32))) ≠ (3 : Int32) then
  (if (p1 - p1 / (p2 - (9 : Int32)) * (p2 - (9 : Int32))) ≠ (4 : Int32) then
  (if (p1 - p1 / (p2 - (9 : Int32)) * (p2 - (9 : Int32))) ≠ (5 : Int32) then
  (if (p1 - p1 / (p2 - (9 : Int32)) * (p2 - (9 : Int32))) ≠ (6 : Int32) then
  (if (p1 - p1 / (p2 - (9 : Int32)) * (p2 - (9 : Int32))) ≠ (7 : Int32) then
  (if (p1 - p1 / (p2 - (9 : Int32)) * (p2 - (9 : Int32))) ≠ (8 : Int32) then
  (if (p1 - p1 / (p2 - (9 : Int32)) * (p2 - (9 : Int32))) ≠ (9 : Int32) then
  (if p2 ≤ ((p1 - p1 / (p2 - (9 : Int32)) * (p2 - (9 : Int32))) + (9 : Int32)) then
  (some (3 : Int32))
  else
  some ((p1 - p1 / (p2 - (9 : Int32)) * (p2 - (9 : Int32))) + (9 : Int32)))
  else
  some (0 : Int32))
  else
  some (18 : Int32))
  else
  some (17 : Int32))
  else
  some (16 : Int32))
  else
  some (14 : Int32))
  else
  some (10 : Int32))
  else
  some (7 : Int32))
  else
  some (4 : Int32))
  else
  some (3 : Int32))
  else
  some (1 : Int32)
set_option maxHeartbeats 4000000 in
set_option maxRecDepth 100000 in
theorem ok_fL_pick  {N : cN} {C : cC} {E : cE} {F : cF} {P : cP} {Q : cQ} {k n : Nat} {p1 p2 : Int32} {rv : Int32} (h : fL_pick p1 p2 = some rv) (D : Nat) (hD : 1 ≤ D) : am_Call D 82 [.int p1, .int p2] (W9 N C E F P Q) k n (.inl (some (.int rv)), W9 N C E F P Q, k, n) := by
  unfold fL_pick at h
  obtain ⟨D, rfl⟩ : ∃ D', D = D' + 1 := ⟨D - 1, by omega⟩
  have hD : 0 ≤ D := by omega
  refine am_call_run (by decide) (by decide) rfl (Nat.le_of_ble_eq_true rfl) (by decide) (L := [(0, .int p1), (1, .int p2)]) rfl ?_
  by_cases g1 : ((p2 - (9 : Int32)) = 0)
  · rw [if_pos g1] at h; cases h
  rw [if_neg g1] at h
  refine am_ev_st 8 (f' := am_br ((p1 - p1 / (p2 - (9 : Int32)) * (p2 - (9 : Int32))) ≠ 0) 15 8 [(2, .int (p1 - p1 / (p2 - (9 : Int32)) * (p2 - (9 : Int32)))), (0, .int p1), (1, .int p2)] [] (W9 N C E F P Q) k n) (g := True ∧ True ∧ True ∧ True ∧ ¬ ((p2 - (9 : Int32)) = 0) ∧ True ∧ True ∧ True ∧ True) (by with_unfolding_all rfl) ⟨trivial, trivial, trivial, trivial, g1, trivial, trivial, trivial, trivial⟩ ?_
  by_cases c2 : (p1 - p1 / (p2 - (9 : Int32)) * (p2 - (9 : Int32))) ≠ 0
  · rw [if_pos c2] at h
    refine am_ev_pos c2 ?_
    refine am_ev_st 3 (f' := am_br ((p1 - p1 / (p2 - (9 : Int32)) * (p2 - (9 : Int32))) ≠ (1 : Int32)) 24 17 [(2, .int (p1 - p1 / (p2 - (9 : Int32)) * (p2 - (9 : Int32)))), (0, .int p1), (1, .int p2)] [] (W9 N C E F P Q) k n) (g := True ∧ True ∧ True ∧ True) (by with_unfolding_all rfl) ⟨trivial, trivial, trivial, trivial⟩ ?_
    by_cases c3 : (p1 - p1 / (p2 - (9 : Int32)) * (p2 - (9 : Int32))) ≠ (1 : Int32)
    · rw [if_pos c3] at h
      refine am_ev_pos c3 ?_
      refine am_ev_st 3 (f' := am_br ((p1 - p1 / (p2 - (9 : Int32)) * (p2 - (9 : Int32))) ≠ (2 : Int32)) 33 26 [(2, .int (p1 - p1 / (p2 - (9 : Int32)) * (p2 - (9 : Int32)))), (0, .int p1), (1, .int p2)] [] (W9 N C E F P Q) k n) (g := True ∧ True ∧ True ∧ True) (by with_unfolding_all rfl) ⟨trivial, trivial, trivial, trivial⟩ ?_
      by_cases c4 : (p1 - p1 / (p2 - (9 : Int32)) * (p2 - (9 : Int32))) ≠ (2 : Int32)
      · rw [if_pos c4] at h
        refine am_ev_pos c4 ?_
        refine am_ev_st 3 (f' := am_br ((p1 - p1 / (p2 - (9 : Int32)) * (p2 - (9 : Int32))) ≠ (3 : Int32)) 43 35 [(2, .int (p1 - p1 / (p2 - (9 : Int32)) * (p2 - (9 : Int32)))), (0, .int p1), (1, .int p2)] [] (W9 N C E F P Q) k n) (g := True ∧ True ∧ True ∧ True) (by with_unfolding_all rfl) ⟨trivial, trivial, trivial, trivial⟩ ?_
        by_cases c5 : (p1 - p1 / (p2 - (9 : Int32)) * (p2 - (9 : Int32))) ≠ (3 : Int32)
        · rw [if_pos c5] at h
          refine am_ev_pos c5 ?_
          refine am_ev_st 3 (f' := am_br ((p1 - p1 / (p2 - (9 : Int32)) * (p2 - (9 : Int32))) ≠ (4 : Int32)) 53 45 [(2, .int (p1 - p1 / (p2 - (9 : Int32)) * (p2 - (9 : Int32)))), (0, .int p1), (1, .int p2)] [] (W9 N C E F P Q) k n) (g := True ∧ True ∧ True ∧ True) (by with_unfolding_all rfl) ⟨trivial, trivial, trivial, trivial⟩ ?_
          by_cases c6 : (p1 - p1 / (p2 - (9 : Int32)) * (p2 - (9 : Int32))) ≠ (4 : Int32)
          · rw [if_pos c6] at h
            refine am_ev_pos c6 ?_
            refine am_ev_st 3 (f' := am_br ((p1 - p1 / (p2 - (9 : Int32)) * (p2 - (9 : Int32))) ≠ (5 : Int32)) 63 55 [(2, .int (p1 - p1 / (p2 - (9 : Int32)) * (p2 - (9 : Int32)))), (0, .int p1), (1, .int p2)] [] (W9 N C E F P Q) k n) (g := True ∧ True ∧ True ∧ True) (by with_unfolding_all rfl) ⟨trivial, trivial, trivial, trivial⟩ ?_
            by_cases c7 : (p1 - p1 / (p2 - (9 : Int32)) * (p2 - (9 : Int32))) ≠ (5 : Int32)
            · rw [if_pos c7] at h
              refine am_ev_pos c7 ?_
              refine am_ev_st 3 (f' := am_br ((p1 - p1 / (p2 - (9 : Int32)) * (p2 - (9 : Int32))) ≠ (6 : Int32)) 74 66 [(2, .int (p1 - p1 / (p2 - (9 : Int32)) * (p2 - (9 : Int32)))), (0, .int p1), (1, .int p2)] [] (W9 N C E F P Q) k n) (g := True ∧ True ∧ True ∧ True) (by with_unfolding_all rfl) ⟨trivial, trivial, trivial, trivial⟩ ?_
              by_cases c8 : (p1 - p1 / (p2 - (9 : Int32)) * (p2 - (9 : Int32))) ≠ (6 : Int32)
              · rw [if_pos c8] at h
                refine am_ev_pos c8 ?_
                refine am_ev_st 3 (f' := am_br ((p1 - p1 / (p2 - (9 : Int32)) * (p2 - (9 : Int32))) ≠ (7 : Int32)) 85 77 [(2, .int (p1 - p1 / (p2 - (9 : Int32)) * (p2 - (9 : Int32)))), (0, .int p1), (1, .int p2)] [] (W9 N C E F P Q) k n) (g := True ∧ True ∧ True ∧ True) (by with_unfolding_all rfl) ⟨trivial, trivial, trivial, trivial⟩ ?_
                by_cases c9 : (p1 - p1 / (p2 - (9 : Int32)) * (p2 - (9 : Int32))) ≠ (7 : Int32)
                · rw [if_pos c9] at h
                  refine am_ev_pos c9 ?_
                  refine am_ev_st 3 (f' := am_br ((p1 - p1 / (p2 - (9 : Int32)) * (p2 - (9 : Int32))) ≠ (8 : Int32)) 96 88 [(2, .int (p1 - p1 / (p2 - (9 : Int32)) * (p2 - (9 : Int32)))), (0, .int p1), (1, .int p2)] [] (W9 N C E F P Q) k n) (g := True ∧ True ∧ True ∧ True) (by with_unfolding_all rfl) ⟨trivial, trivial, trivial, trivial⟩ ?_
                  by_cases c10 : (p1 - p1 / (p2 - (9 : Int32)) * (p2 - (9 : Int32))) ≠ (8 : Int32)
                  · rw [if_pos c10] at h
                    refine am_ev_pos c10 ?_
                    refine am_ev_st 3 (f' := am_br ((p1 - p1 / (p2 - (9 : Int32)) * (p2 - (9 : Int32))) ≠ (9 : Int32)) 106 99 [(2, .int (p1 - p1 / (p2 - (9 : Int32)) * (p2 - (9 : Int32)))), (0, .int p1), (1, .int p2)] [] (W9 N C E F P Q) k n) (g := True ∧ True ∧ True ∧ True) (by with_unfolding_all rfl) ⟨trivial, trivial, trivial, trivial⟩ ?_
                    by_cases c11 : (p1 - p1 / (p2 - (9 : Int32)) * (p2 - (9 : Int32))) ≠ (9 : Int32)
                    · rw [if_pos c11] at h
                      refine am_ev_pos c11 ?_
                      refine am_ev_st 5 (f' := am_br (p2 ≤ ((p1 - p1 / (p2 - (9 : Int32)) * (p2 - (9 : Int32))) + (9 : Int32))) 121 111 [(2, .int (p1 - p1 / (p2 - (9 : Int32)) * (p2 - (9 : Int32)))), (0, .int p1), (1, .int p2)] [] (W9 N C E F P Q) k n) (g := True ∧ True ∧ True ∧ True ∧ True ∧ True) (by with_unfolding_all rfl) ⟨trivial, trivial, trivial, trivial, trivial, trivial⟩ ?_
                      by_cases c12 : p2 ≤ ((p1 - p1 / (p2 - (9 : Int32)) * (p2 - (9 : Int32))) + (9 : Int32))
                      · rw [if_pos c12] at h
                        refine am_ev_pos c12 ?_
                        refine am_ev_st 1 (f' := (122, [(2, .int (p1 - p1 / (p2 - (9 : Int32)) * (p2 - (9 : Int32)))), (0, .int p1), (1, .int p2)], [.int (3 : Int32)], (W9 N C E F P Q), k, n)) (g := True ∧ True) (by with_unfolding_all rfl) ⟨trivial, trivial⟩ ?_
                        cases h
                        exact am_ev_ret 0 0 0 rfl .int rfl rfl rfl
                      · rw [if_neg c12] at h
                        refine am_ev_neg c12 ?_
                        refine am_ev_st 4 (f' := (122, [(2, .int (p1 - p1 / (p2 - (9 : Int32)) * (p2 - (9 : Int32)))), (0, .int p1), (1, .int p2)], [.int ((p1 - p1 / (p2 - (9 : Int32)) * (p2 - (9 : Int32))) + (9 : Int32))], (W9 N C E F P Q), k, n)) (g := True ∧ True ∧ True ∧ True ∧ True) (by with_unfolding_all rfl) ⟨trivial, trivial, trivial, trivial, trivial⟩ ?_
                        cases h
                        exact am_ev_ret 0 0 0 rfl .int rfl rfl rfl
                    · rw [if_neg c11] at h
                      refine am_ev_neg c11 ?_
                      refine am_ev_st 2 (f' := (122, [(2, .int (p1 - p1 / (p2 - (9 : Int32)) * (p2 - (9 : Int32)))), (0, .int p1), (1, .int p2)], [.int (0 : Int32)], (W9 N C E F P Q), k, n)) (g := True ∧ True ∧ True) (by with_unfolding_all rfl) ⟨trivial, trivial, trivial⟩ ?_
                      cases h
                      exact am_ev_ret 0 0 0 rfl .int rfl rfl rfl
                  · rw [if_neg c10] at h
                    refine am_ev_neg c10 ?_
                    refine am_ev_st 2 (f' := (122, [(2, .int (p1 - p1 / (p2 - (9 : Int32)) * (p2 - (9 : Int32)))), (0, .int p1), (1, .int p2)], [.int (18 : Int32)], (W9 N C E F P Q), k, n)) (g := True ∧ True ∧ True) (by with_unfolding_all rfl) ⟨trivial, trivial, trivial⟩ ?_
                    cases h
                    exact am_ev_ret 0 0 0 rfl .int rfl rfl rfl
                · rw [if_neg c9] at h
                  refine am_ev_neg c9 ?_
                  refine am_ev_st 2 (f' := (122, [(2, .int (p1 - p1 / (p2 - (9 : Int32)) * (p2 - (9 : Int32)))), (0, .int p1), (1, .int p2)], [.int (17 : Int32)], (W9 N C E F P Q), k, n)) (g := True ∧ True ∧ True) (by with_unfolding_all rfl) ⟨trivial, trivial, trivial⟩ ?_
                  cases h
                  exact am_ev_ret 0 0 0 rfl .int rfl rfl rfl
              · rw [if_neg c8] at h
                refine am_ev_neg c8 ?_
                refine am_ev_st 2 (f' := (122, [(2, .int (p1 - p1 / (p2 - (9 : Int32)) * (p2 - (9 : Int32)))), (0, .int p1), (1, .int p2)], [.int (16 : Int32)], (W9 N C E F P Q), k, n)) (g := True ∧ True ∧ True) (by with_unfolding_all rfl) ⟨trivial, trivial, trivial⟩ ?_
                cases h
                exact am_ev_ret 0 0 0 rfl .int rfl rfl rfl
            · rw [if_neg c7] at h
              refine am_ev_neg c7 ?_
              refine am_ev_st 2 (f' := (122, [(2, .int (p1 - p1 / (p2 - (9 : Int32)) * (p2 - (9 : Int32)))), (0, .int p1), (1, .int p2)], [.int (14 : Int32)], (W9 N C E F P Q), k, n)) (g := True ∧ True ∧ True) (by with_unfolding_all rfl) ⟨trivial, trivial, trivial⟩ ?_
              cases h
              exact am_ev_ret 0 0 0 rfl .int rfl rfl rfl
          · rw [if_neg c6] at h
            refine am_ev_neg c6 ?_
            refine am_ev_st 2 (f' := (122, [(2, .int (p1 - p1 / (p2 - (9 : Int32)) * (p2 - (9 : Int32)))), (0, .int p1), (1, .int p2)], [.int (10 : Int32)], (W9 N C E F P Q), k, n)) (g := True ∧ True ∧ True) (by with_unfolding_all rfl) ⟨trivial, trivial, trivial⟩ ?_
            cases h
            exact am_ev_ret 0 0 0 rfl .int rfl rfl rfl
        · rw [if_neg c5] at h
          refine am_ev_neg c5 ?_
          refine am_ev_st 2 (f' := (122, [(2, .int (p1 - p1 / (p2 - (9 : Int32)) * (p2 - (9 : Int32)))), (0, .int p1), (1, .int p2)], [.int (7 : Int32)], (W9 N C E F P Q), k, n)) (g := True ∧ True ∧ True) (by with_unfolding_all rfl) ⟨trivial, trivial, trivial⟩ ?_
          cases h
          exact am_ev_ret 0 0 0 rfl .int rfl rfl rfl
      · rw [if_neg c4] at h
        refine am_ev_neg c4 ?_
        refine am_ev_st 2 (f' := (122, [(2, .int (p1 - p1 / (p2 - (9 : Int32)) * (p2 - (9 : Int32)))), (0, .int p1), (1, .int p2)], [.int (4 : Int32)], (W9 N C E F P Q), k, n)) (g := True ∧ True ∧ True) (by with_unfolding_all rfl) ⟨trivial, trivial, trivial⟩ ?_
        cases h
        exact am_ev_ret 0 0 0 rfl .int rfl rfl rfl
    · rw [if_neg c3] at h
      refine am_ev_neg c3 ?_
      refine am_ev_st 2 (f' := (122, [(2, .int (p1 - p1 / (p2 - (9 : Int32)) * (p2 - (9 : Int32)))), (0, .int p1), (1, .int p2)], [.int (3 : Int32)], (W9 N C E F P Q), k, n)) (g := True ∧ True ∧ True) (by with_unfolding_all rfl) ⟨trivial, trivial, trivial⟩ ?_
      cases h
      exact am_ev_ret 0 0 0 rfl .int rfl rfl rfl
  · rw [if_neg c2] at h
    refine am_ev_neg c2 ?_
    refine am_ev_st 2 (f' := (122, [(2, .int (p1 - p1 / (p2 - (9 : Int32)) * (p2 - (9 : Int32)))), (0, .int p1), (1, .int p2)], [.int (1 : Int32)], (W9 N C E F P Q), k, n)) (g := True ∧ True ∧ True) (by with_unfolding_all rfl) ⟨trivial, trivial, trivial⟩ ?_
    cases h
    exact am_ev_ret 0 0 0 rfl .int rfl rfl rfl
