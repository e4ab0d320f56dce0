def fE_valueOf (E : cE) : Option (Int32) :=
  match E with
  | (fi, se, op, fu, ma) =>
  if op < 0 then
  (some (-1 : Int32))
  else
  if (Int32.ofNat 512) ≤ op then
  (some (-1 : Int32))
  else
  if (op < 0 ∨ 512 ≤ (op).toNatClampNeg) then none else
  some (fi (op).toNatClampNeg)
set_option maxHeartbeats 4000000 in
set_option maxRecDepth 100000 in
theorem ok_fE_valueOf  {N : cN} {C : cC} {E : cE} {F : cF} {P : cP} {Q : cQ} {k n : Nat} {rv : Int32} (h : fE_valueOf E = some rv) (D : Nat) (hD : 1 ≤ D) : am_Call D 51 [.ref 10, .ref 11] (W9 N C E F P Q) k n (.inl (some (.int rv)), W9 N C E F P Q, k, n) := by
  unfold fE_valueOf at h
  obtain ⟨D, rfl⟩ : ∃ D', D = D' + 1 := ⟨D - 1, by omega⟩
  have hD : 0 ≤ D := by omega
  refine am_call_run (by decide) (by decide) rfl (Nat.le_of_ble_eq_true rfl) (by decide) (L := [(0, .ref 10), (1, .ref 11)]) rfl ?_
  obtain ⟨fi, se, op, fu, ma⟩ := E
  try dsimp only at h
  refine am_ev_st 3 (f' := am_br (op < 0) 25 4 [(0, .ref 10), (1, .ref 11)] [] (W9 N C (fi, se, op, fu, ma) F P Q) k n) (g := True ∧ True ∧ True ∧ True) (by with_unfolding_all rfl) ⟨trivial, trivial, trivial, trivial⟩ ?_
  by_cases c1 : op < 0
  · rw [if_pos c1] at h
    refine am_ev_pos c1 ?_
    refine am_ev_st 1 (f' := (26, [(0, .ref 10), (1, .ref 11)], [.int (-1 : Int32)], (W9 N C (fi, se, op, fu, ma) F P Q), k, n)) (g := True ∧ True) (by with_unfolding_all rfl) ⟨trivial, trivial⟩ ?_
    cases h
    exact am_ev_ret 0 0 0 rfl .int rfl rfl rfl
  · rw [if_neg c1] at h
    refine am_ev_neg c1 ?_
    refine am_ev_st 5 (f' := am_br ((Int32.ofNat 512) ≤ op) 25 13 [(0, .ref 10), (1, .ref 11)] [] (W9 N C (fi, se, op, fu, ma) F P Q) k n) (g := True ∧ True ∧ True ∧ True ∧ True ∧ True) (by with_unfolding_all rfl) ⟨trivial, trivial, trivial, trivial, trivial, trivial⟩ ?_
    by_cases c2 : (Int32.ofNat 512) ≤ op
    · rw [if_pos c2] at h
      refine am_ev_pos c2 ?_
      refine am_ev_st 1 (f' := (26, [(0, .ref 10), (1, .ref 11)], [.int (-1 : Int32)], (W9 N C (fi, se, op, fu, ma) F P Q), k, n)) (g := True ∧ True) (by with_unfolding_all rfl) ⟨trivial, trivial⟩ ?_
      cases h
      exact am_ev_ret 0 0 0 rfl .int rfl rfl rfl
    · rw [if_neg c2] at h
      refine am_ev_neg c2 ?_
      by_cases g3 : (op < 0 ∨ 512 ≤ (op).toNatClampNeg)
      · rw [if_pos g3] at h; cases h
      rw [if_neg g3] at h
      refine am_ev_st 5 (f' := (26, [(0, .ref 10), (1, .ref 11)], [.int (fi (op).toNatClampNeg)], (W9 N C (fi, se, op, fu, ma) F P Q), k, n)) (g := True ∧ True ∧ True ∧ vp_in (op) 512 ∧ True ∧ True) (by with_unfolding_all rfl) ⟨trivial, trivial, trivial, g3, trivial, trivial⟩ ?_
      cases h
      exact am_ev_ret 0 0 0 rfl .int rfl rfl rfl
def fE_valueOf_10_12 (E : cE) : Option (Int32) :=
  match E with
  | (fi, se, op, fu, ma) =>
  if op < 0 then
  (some (-1 : Int32))
  else
  if (Int32.ofNat 512) ≤ op then
  (some (-1 : Int32))
  else
  if (op < 0 ∨ 512 ≤ (op).toNatClampNeg) then none else
  some (se (op).toNatClampNeg)
set_option maxHeartbeats 4000000 in
set_option maxRecDepth 100000 in
theorem ok_fE_valueOf_10_12  {N : cN} {C : cC} {E : cE} {F : cF} {P : cP} {Q : cQ} {k n : Nat} {rv : Int32} (h : fE_valueOf_10_12 E = some rv) (D : Nat) (hD : 1 ≤ D) : am_Call D 51 [.ref 10, .ref 12] (W9 N C E F P Q) k n (.inl (some (.int rv)), W9 N C E F P Q, k, n) := by
  unfold fE_valueOf_10_12 at h
  obtain ⟨D, rfl⟩ : ∃ D', D = D' + 1 := ⟨D - 1, by omega⟩
  have hD : 0 ≤ D := by omega
  refine am_call_run (by decide) (by decide) rfl (Nat.le_of_ble_eq_true rfl) (by decide) (L := [(0, .ref 10), (1, .ref 12)]) rfl ?_
  obtain ⟨fi, se, op, fu, ma⟩ := E
  try dsimp only at h
  refine am_ev_st 3 (f' := am_br (op < 0) 25 4 [(0, .ref 10), (1, .ref 12)] [] (W9 N C (fi, se, op, fu, ma) F P Q) k n) (g := True ∧ True ∧ True ∧ True) (by with_unfolding_all rfl) ⟨trivial, trivial, trivial, trivial⟩ ?_
  by_cases c1 : op < 0
  · rw [if_pos c1] at h
    refine am_ev_pos c1 ?_
    refine am_ev_st 1 (f' := (26, [(0, .ref 10), (1, .ref 12)], [.int (-1 : Int32)], (W9 N C (fi, se, op, fu, ma) F P Q), k, n)) (g := True ∧ True) (by with_unfolding_all rfl) ⟨trivial, trivial⟩ ?_
    cases h
    exact am_ev_ret 0 0 0 rfl .int rfl rfl rfl
  · rw [if_neg c1] at h
    refine am_ev_neg c1 ?_
    refine am_ev_st 5 (f' := am_br ((Int32.ofNat 512) ≤ op) 25 13 [(0, .ref 10), (1, .ref 12)] [] (W9 N C (fi, se, op, fu, ma) F P Q) k n) (g := True ∧ True ∧ True ∧ True ∧ True ∧ True) (by with_unfolding_all rfl) ⟨trivial, trivial, trivial, trivial, trivial, trivial⟩ ?_
    by_cases c2 : (Int32.ofNat 512) ≤ op
    · rw [if_pos c2] at h
      refine am_ev_pos c2 ?_
      refine am_ev_st 1 (f' := (26, [(0, .ref 10), (1, .ref 12)], [.int (-1 : Int32)], (W9 N C (fi, se, op, fu, ma) F P Q), k, n)) (g := True ∧ True) (by with_unfolding_all rfl) ⟨trivial, trivial⟩ ?_
      cases h
      exact am_ev_ret 0 0 0 rfl .int rfl rfl rfl
    · rw [if_neg c2] at h
      refine am_ev_neg c2 ?_
      by_cases g3 : (op < 0 ∨ 512 ≤ (op).toNatClampNeg)
      · rw [if_pos g3] at h; cases h
      rw [if_neg g3] at h
      refine am_ev_st 5 (f' := (26, [(0, .ref 10), (1, .ref 12)], [.int (se (op).toNatClampNeg)], (W9 N C (fi, se, op, fu, ma) F P Q), k, n)) (g := True ∧ True ∧ True ∧ vp_in (op) 512 ∧ True ∧ True) (by with_unfolding_all rfl) ⟨trivial, trivial, trivial, g3, trivial, trivial⟩ ?_
      cases h
      exact am_ev_ret 0 0 0 rfl .int rfl rfl rfl
def fE_mayBeSame (N : cN) (p1 p2 : Int32) : Option (Bool) :=
  (fN_kindOf N p1).bind fun z1 =>
  match z1 with
  | (r1) =>
  (fN_kindOf N p2).bind fun z2 =>
  match z2 with
  | (r2) =>
  if r1 = r2 then
  ((fJ_hasParts r1).bind fun z4 =>
  match z4 with
  | (r4) =>
  if (am_bz r4) ≠ 0 then
  (some true)
  else
  (fN_leftOf N p1).bind fun z6 =>
  match z6 with
  | (r6) =>
  (fN_leftOf N p2).bind fun z7 =>
  match z7 with
  | (r7) =>
  if r6 ≠ r7 then
  (some false)
  else
  some true)
  else
  some false
set_option maxHeartbeats 4000000 in
set_option maxRecDepth 100000 in
theorem ok_fE_mayBeSame  {N : cN} {C : cC} {E : cE} {F : cF} {P : cP} {Q : cQ} {k n : Nat} {p1 p2 : Int32} {rv : Bool} (h : fE_mayBeSame N p1 p2 = some rv) (D : Nat) (hD : 2 ≤ D) : am_Call D 52 [.ref 10, .int p1, .int p2] (W9 N C E F P Q) k n (.inl (some (.int (am_bz rv))), W9 N C E F P Q, k, n) := by
  unfold fE_mayBeSame at h
  obtain ⟨D, rfl⟩ : ∃ D', D = D' + 1 := ⟨D - 1, by omega⟩
  have hD : 1 ≤ D := by omega
  refine am_call_run (by decide) (by decide) rfl (Nat.le_of_ble_eq_true rfl) (by decide) (L := [(0, .ref 10), (1, .int p1), (2, .int p2)]) rfl ?_
  refine am_ev_st 3 (f' := (5, [(0, .ref 10), (1, .int p1), (2, .int p2)], [.int p1, .ref 1], (W9 N C E F P Q), k, n)) (g := True ∧ True ∧ True ∧ True) (by with_unfolding_all rfl) ⟨trivial, trivial, trivial, trivial⟩ ?_
  replace h := Option.bind_eq_some_iff.mp h
  obtain ⟨r1, hc1, h⟩ := h
  try dsimp only at h
  refine am_ev_call (.invokevirtual 52) 28 2 505 [.ref 1, .int p1] [] rfl rfl rfl rfl (ok_fN_kindOf hc1 D (by omega)) rfl ?_
  refine am_ev_st 5 (f' := (15, [(3, .int r1), (0, .ref 10), (1, .int p1), (2, .int p2)], [.int p2, .ref 1, .int r1], (W9 N C E F P Q), k, n)) (g := True ∧ True ∧ True ∧ True ∧ True ∧ True) (by with_unfolding_all rfl) ⟨trivial, trivial, trivial, trivial, trivial, trivial⟩ ?_
  replace h := Option.bind_eq_some_iff.mp h
  obtain ⟨r2, hc2, h⟩ := h
  try dsimp only at h
  refine am_ev_call (.invokevirtual 52) 28 2 505 [.ref 1, .int p2] [.int r1] rfl rfl rfl rfl (ok_fN_kindOf hc2 D (by omega)) rfl ?_
  refine am_ev_st 1 (f' := am_br (r1 = r2) 23 18 [(3, .int r1), (0, .ref 10), (1, .int p1), (2, .int p2)] [] (W9 N C E F P Q) k n) (g := True ∧ True) (by with_unfolding_all rfl) ⟨trivial, trivial⟩ ?_
  by_cases c3 : r1 = r2
  · rw [if_pos c3] at h
    refine am_ev_pos c3 ?_
    refine am_ev_st 1 (f' := (24, [(3, .int r1), (0, .ref 10), (1, .int p1), (2, .int p2)], [.int r1], (W9 N C E F P Q), k, n)) (g := True ∧ True) (by with_unfolding_all rfl) ⟨trivial, trivial⟩ ?_
    replace h := Option.bind_eq_some_iff.mp h
    obtain ⟨r4, hc4, h⟩ := h
    try dsimp only at h
    refine am_ev_call (.invokestatic 95) 69 3 567 [.int r1] [] rfl rfl rfl rfl (ok_fJ_hasParts hc4 D (by omega)) rfl ?_
    refine am_ev_st 1 (f' := am_br ((am_bz r4) ≠ 0) 49 27 [(3, .int r1), (0, .ref 10), (1, .int p1), (2, .int p2)] [] (W9 N C E F P Q) k n) (g := True ∧ True) (by with_unfolding_all rfl) ⟨trivial, trivial⟩ ?_
    by_cases c5 : (am_bz r4) ≠ 0
    · rw [if_pos c5] at h
      refine am_ev_pos c5 ?_
      refine am_ev_st 2 (f' := (54, [(3, .int r1), (0, .ref 10), (1, .int p1), (2, .int p2)], [.int (1 : Int32)], (W9 N C E F P Q), k, n)) (g := True ∧ True ∧ True) (by with_unfolding_all rfl) ⟨trivial, trivial, trivial⟩ ?_
      cases h
      exact am_ev_ret 0 0 0 rfl .boolean rfl am_n1 rfl
    · rw [if_neg c5] at h
      refine am_ev_neg c5 ?_
      refine am_ev_st 3 (f' := (35, [(3, .int r1), (0, .ref 10), (1, .int p1), (2, .int p2)], [.int p1, .ref 1], (W9 N C E F P Q), k, n)) (g := True ∧ True ∧ True ∧ True) (by with_unfolding_all rfl) ⟨trivial, trivial, trivial, trivial⟩ ?_
      replace h := Option.bind_eq_some_iff.mp h
      obtain ⟨r6, hc6, h⟩ := h
      try dsimp only at h
      refine am_ev_call (.invokevirtual 47) 29 2 506 [.ref 1, .int p1] [] rfl rfl rfl rfl (ok_fN_leftOf hc6 D (by omega)) rfl ?_
      refine am_ev_st 3 (f' := (43, [(3, .int r1), (0, .ref 10), (1, .int p1), (2, .int p2)], [.int p2, .ref 1, .int r6], (W9 N C E F P Q), k, n)) (g := True ∧ True ∧ True ∧ True) (by with_unfolding_all rfl) ⟨trivial, trivial, trivial, trivial⟩ ?_
      replace h := Option.bind_eq_some_iff.mp h
      obtain ⟨r7, hc7, h⟩ := h
      try dsimp only at h
      refine am_ev_call (.invokevirtual 47) 29 2 506 [.ref 1, .int p2] [.int r6] rfl rfl rfl rfl (ok_fN_leftOf hc7 D (by omega)) rfl ?_
      refine am_ev_st 1 (f' := am_br (r6 ≠ r7) 53 46 [(3, .int r1), (0, .ref 10), (1, .int p1), (2, .int p2)] [] (W9 N C E F P Q) k n) (g := True ∧ True) (by with_unfolding_all rfl) ⟨trivial, trivial⟩ ?_
      by_cases c8 : r6 ≠ r7
      · rw [if_pos c8] at h
        refine am_ev_pos c8 ?_
        refine am_ev_st 1 (f' := (54, [(3, .int r1), (0, .ref 10), (1, .int p1), (2, .int p2)], [.int (0 : Int32)], (W9 N C E F P Q), k, n)) (g := True ∧ True) (by with_unfolding_all rfl) ⟨trivial, trivial⟩ ?_
        cases h
        exact am_ev_ret 0 0 0 rfl .boolean rfl am_n0 rfl
      · rw [if_neg c8] at h
        refine am_ev_neg c8 ?_
        refine am_ev_st 2 (f' := (54, [(3, .int r1), (0, .ref 10), (1, .int p1), (2, .int p2)], [.int (1 : Int32)], (W9 N C E F P Q), k, n)) (g := True ∧ True ∧ True) (by with_unfolding_all rfl) ⟨trivial, trivial, trivial⟩ ?_
        cases h
        exact am_ev_ret 0 0 0 rfl .boolean rfl am_n1 rfl
  · rw [if_neg c3] at h
    refine am_ev_neg c3 ?_
    refine am_ev_st 1 (f' := (22, [(3, .int r1), (0, .ref 10), (1, .int p1), (2, .int p2)], [.int (0 : Int32)], (W9 N C E F P Q), k, n)) (g := True ∧ True) (by with_unfolding_all rfl) ⟨trivial, trivial⟩ ?_
    cases h
    exact am_ev_ret 0 0 0 rfl .boolean rfl am_n0 rfl
def fE_open (E : cE) (k n : Nat) (p1 p2 : Int32) : Option (((Unit) ⊕ Nat) × cE × (Nat × Nat)) :=
  match E with
  | (fi, se, op, fu, ma) =>
  if op < 0 then
  (some (.inr 2, E, ((k + 1), (n + 6))))
  else
  if op < (512 : Int32) then
  (if (op < 0 ∨ 512 ≤ (op).toNatClampNeg) then none else
  if (op < 0 ∨ 512 ≤ (op).toNatClampNeg) then none else
  some (.inl (), ((upd fi (op).toNatClampNeg p1), (upd se (op).toNatClampNeg p2), (op + (1 : Int32)), fu, ma), (k, n)))
  else
  some (.inr 2, E, ((k + 1), (n + 6)))
set_option maxHeartbeats 4000000 in
set_option maxRecDepth 100000 in
theorem ok_fE_open  {N : cN} {C : cC} {E : cE} {F : cF} {P : cP} {Q : cQ} {k n : Nat} {p1 p2 : Int32} {rv : (Unit) ⊕ Nat} {E' : cE} {k' n' : Nat} (h : fE_open E k n p1 p2 = some (rv, E', (k', n'))) (D : Nat) (hD : 1 ≤ D) : am_Call D 54 [.ref 10, .int p1, .int p2] (W9 N C E F P Q) k n (am_oV rv, W9 N C E' F P Q, k', n') := by
  unfold fE_open at h
  obtain ⟨D, rfl⟩ : ∃ D', D = D' + 1 := ⟨D - 1, by omega⟩
  have hD : 0 ≤ D := by omega
  refine am_call_run (by decide) (by decide) rfl (Nat.le_of_ble_eq_true rfl) (by decide) (L := [(0, .ref 10), (1, .int p1), (2, .int p2)]) rfl ?_
  obtain ⟨fi, se, op, fu, ma⟩ := E
  try dsimp only at h
  refine am_ev_st 3 (f' := am_br (op < 0) 17 4 [(0, .ref 10), (1, .int p1), (2, .int p2)] [] (W9 N C (fi, se, op, fu, ma) F P Q) k n) (g := True ∧ True ∧ True ∧ True) (by with_unfolding_all rfl) ⟨trivial, trivial, trivial, trivial⟩ ?_
  by_cases c1 : op < 0
  · rw [if_pos c1] at h
    refine am_ev_pos c1 ?_
    cases h
    exact am_ev_throw (.new 40) 10 2 508 rfl _ rfl rfl rfl rfl rfl rfl rfl
  · rw [if_neg c1] at h
    refine am_ev_neg c1 ?_
    refine am_ev_st 4 (f' := am_br (op < (512 : Int32)) 27 14 [(0, .ref 10), (1, .int p1), (2, .int p2)] [] (W9 N C (fi, se, op, fu, ma) F P Q) k n) (g := True ∧ True ∧ True ∧ True ∧ True) (by with_unfolding_all rfl) ⟨trivial, trivial, trivial, trivial, trivial⟩ ?_
    by_cases c2 : op < (512 : Int32)
    · rw [if_pos c2] at h
      refine am_ev_pos c2 ?_
      by_cases g3 : (op < 0 ∨ 512 ≤ (op).toNatClampNeg)
      · rw [if_pos g3] at h; cases h
      rw [if_neg g3] at h
      by_cases g4 : (op < 0 ∨ 512 ≤ (op).toNatClampNeg)
      · rw [if_pos g4] at h; cases h
      rw [if_neg g4] at h
      refine am_ev_st 18 (f' := (57, [(0, .ref 10), (1, .int p1), (2, .int p2)], [], (W9 N C ((upd fi (op).toNatClampNeg p1), (upd se (op).toNatClampNeg p2), (op + (1 : Int32)), fu, ma) F P Q), k, n)) (g := True ∧ True ∧ True ∧ True ∧ True ∧ vp_in (op) 512 ∧ True ∧ True ∧ True ∧ True ∧ True ∧ vp_in (op) 512 ∧ True ∧ True ∧ True ∧ True ∧ True ∧ True ∧ True) (by with_unfolding_all rfl) ⟨trivial, trivial, trivial, trivial, trivial, g3, trivial, trivial, trivial, trivial, trivial, g4, trivial, trivial, trivial, trivial, trivial, trivial, trivial⟩ ?_
      cases h
      exact am_ev_vret 0 0 0 rfl rfl rfl
    · rw [if_neg c2] at h
      refine am_ev_neg c2 ?_
      cases h
      exact am_ev_throw (.new 40) 10 2 508 rfl _ rfl rfl rfl rfl rfl rfl rfl
def fE_openParts (N : cN) (E : cE) (k n : Nat) (p1 p2 : Int32) : Option (((Unit) ⊕ Nat) × cE × (Nat × Nat)) :=
  (fN_rightOf N p1).bind fun z1 =>
  match z1 with
  | (r1) =>
  (fN_rightOf N p2).bind fun z2 =>
  match z2 with
  | (r2) =>
  (fE_open E k n r1 r2).bind fun z3 =>
  match z3 with
  | (.inl (), E_3, (k_3, n_3)) =>
  ((fN_leftOf N p1).bind fun z4 =>
  match z4 with
  | (r4) =>
  (fN_leftOf N p2).bind fun z5 =>
  match z5 with
  | (r5) =>
  (fE_open E_3 k_3 n_3 r4 r5).bind fun z6 =>
  match z6 with
  | (.inl (), E_6, (k_6, n_6)) =>
  (some (.inl (), E_6, (k_6, n_6)))
  | (.inr e6, E_6, (k_6, n_6)) =>
  (some (.inr e6, E_6, (k_6, n_6))))
  | (.inr e3, E_3, (k_3, n_3)) =>
  (some (.inr e3, E_3, (k_3, n_3)))
set_option maxHeartbeats 4000000 in
set_option maxRecDepth 100000 in
theorem ok_fE_openParts  {N : cN} {C : cC} {E : cE} {F : cF} {P : cP} {Q : cQ} {k n : Nat} {p1 p2 : Int32} {rv : (Unit) ⊕ Nat} {E' : cE} {k' n' : Nat} (h : fE_openParts N E k n p1 p2 = some (rv, E', (k', n'))) (D : Nat) (hD : 2 ≤ D) : am_Call D 53 [.ref 10, .int p1, .int p2] (W9 N C E F P Q) k n (am_oV rv, W9 N C E' F P Q, k', n') := by
  unfold fE_openParts at h
  obtain ⟨D, rfl⟩ : ∃ D', D = D' + 1 := ⟨D - 1, by omega⟩
  have hD : 1 ≤ D := by omega
  refine am_call_run (by decide) (by decide) rfl (Nat.le_of_ble_eq_true rfl) (by decide) (L := [(0, .ref 10), (1, .int p1), (2, .int p2)]) rfl ?_
  refine am_ev_st 4 (f' := (6, [(0, .ref 10), (1, .int p1), (2, .int p2)], [.int p1, .ref 1, .ref 10], (W9 N C E F P Q), k, n)) (g := True ∧ True ∧ True ∧ True ∧ True) (by with_unfolding_all rfl) ⟨trivial, trivial, trivial, trivial, trivial⟩ ?_
  replace h := Option.bind_eq_some_iff.mp h
  obtain ⟨r1, hc1, h⟩ := h
  try dsimp only at h
  refine am_ev_call (.invokevirtual 60) 30 2 511 [.ref 1, .int p1] [.ref 10] rfl rfl rfl rfl (ok_fN_rightOf hc1 D (by omega)) rfl ?_
  refine am_ev_st 3 (f' := (14, [(0, .ref 10), (1, .int p1), (2, .int p2)], [.int p2, .ref 1, .int r1, .ref 10], (W9 N C E F P Q), k, n)) (g := True ∧ True ∧ True ∧ True) (by with_unfolding_all rfl) ⟨trivial, trivial, trivial, trivial⟩ ?_
  replace h := Option.bind_eq_some_iff.mp h
  obtain ⟨r2, hc2, h⟩ := h
  try dsimp only at h
  refine am_ev_call (.invokevirtual 60) 30 2 511 [.ref 1, .int p2] [.int r1, .ref 10] rfl rfl rfl rfl (ok_fN_rightOf hc2 D (by omega)) rfl ?_
  replace h := Option.bind_eq_some_iff.mp h
  obtain ⟨⟨⟨⟩ | e3, E_3, ⟨k_3, n_3⟩⟩, hc3, h⟩ := h
  · dsimp only at h
    refine am_ev_call (.invokevirtual 79) 54 4 552 [.ref 10, .int r1, .int r2] [] rfl rfl rfl rfl (ok_fE_open hc3 D (by omega)) rfl ?_
    refine am_ev_st 4 (f' := (26, [(0, .ref 10), (1, .int p1), (2, .int p2)], [.int p1, .ref 1, .ref 10], (W9 N C E_3 F P Q), k_3, n_3)) (g := True ∧ True ∧ True ∧ True ∧ True) (by with_unfolding_all rfl) ⟨trivial, trivial, trivial, trivial, trivial⟩ ?_
    replace h := Option.bind_eq_some_iff.mp h
    obtain ⟨r4, hc4, h⟩ := h
    try dsimp only at h
    refine am_ev_call (.invokevirtual 47) 29 2 506 [.ref 1, .int p1] [.ref 10] rfl rfl rfl rfl (ok_fN_leftOf hc4 D (by omega)) rfl ?_
    refine am_ev_st 3 (f' := (34, [(0, .ref 10), (1, .int p1), (2, .int p2)], [.int p2, .ref 1, .int r4, .ref 10], (W9 N C E_3 F P Q), k_3, n_3)) (g := True ∧ True ∧ True ∧ True) (by with_unfolding_all rfl) ⟨trivial, trivial, trivial, trivial⟩ ?_
    replace h := Option.bind_eq_some_iff.mp h
    obtain ⟨r5, hc5, h⟩ := h
    try dsimp only at h
    refine am_ev_call (.invokevirtual 47) 29 2 506 [.ref 1, .int p2] [.int r4, .ref 10] rfl rfl rfl rfl (ok_fN_leftOf hc5 D (by omega)) rfl ?_
    replace h := Option.bind_eq_some_iff.mp h
    obtain ⟨⟨⟨⟩ | e6, E_6, ⟨k_6, n_6⟩⟩, hc6, h⟩ := h
    · dsimp only at h
      refine am_ev_call (.invokevirtual 79) 54 4 552 [.ref 10, .int r4, .int r5] [] rfl rfl rfl rfl (ok_fE_open hc6 D (by omega)) rfl ?_
      cases h
      exact am_ev_vret 0 0 0 rfl rfl rfl
    · dsimp only at h
      cases h
      exact am_ev_callx (.invokevirtual 79) 54 4 552 [.ref 10, .int r4, .int r5] [] rfl rfl rfl rfl (ok_fE_open hc6 D (by omega)) rfl rfl rfl
  · dsimp only at h
    cases h
    exact am_ev_callx (.invokevirtual 79) 54 4 552 [.ref 10, .int r1, .int r2] [] rfl rfl rfl rfl (ok_fE_open hc3 D (by omega)) rfl rfl rfl
def lp_fE_areSame_13 (fl : Nat) (d : Nat) : Nat → cN → cC → cE → Nat → Nat → Int32 → Int32 → Int32 → Option (((Bool) ⊕ Nat) × cN × cE × (Nat × Nat))
  | 0, _, _, _, _, _, _, _, _ => none
  | w + 1, N, C, E, k, n, v1, v2, v3 =>
    match E with
    | (fi, se, op, fu, ma) =>
    if op ≤ 0 then
    (if op ≠ 0 then
    (some (.inl false, N, E, (k, n)))
    else
    some (.inl true, N, E, (k, n)))
    else
    if (1000000 : Int32) ≤ v3 then
    (if op ≠ 0 then
    (some (.inl false, N, E, (k, n)))
    else
    some (.inl true, N, E, (k, n)))
    else
    (fE_valueOf (fi, se, (op - (1 : Int32)), fu, ma)).bind fun z6 =>
    match z6 with
    | (r6) =>
    (fE_headForm fl d N C (fi, se, (op - (1 : Int32)), fu, ma) k n r6).bind fun z7 =>
    match z7 with
    | (.inl r7, N_7, E_7, (k_7, n_7)) =>
    ((fE_valueOf_10_12 E_7).bind fun z8 =>
    match z8 with
    | (r8) =>
    (fE_headForm fl d N_7 C E_7 k_7 n_7 r8).bind fun z9 =>
    match z9 with
    | (.inl r9, N_9, E_9, (k_9, n_9)) =>
    ((fE_mayBeSame N_9 r7 r9).bind fun z10 =>
    match z10 with
    | (r10) =>
    if (am_bz r10) ≠ 0 then
    ((fN_kindOf N_9 r7).bind fun z12 =>
    match z12 with
    | (r12) =>
    (fJ_hasParts r12).bind fun z13 =>
    match z13 with
    | (r13) =>
    if (am_bz r13) = 0 then
    (lp_fE_areSame_13 fl d w N_9 C E_9 k_9 n_9 v1 v2 (v3 + (1 : Int32)))
    else
    (fE_openParts N_9 E_9 k_9 n_9 r7 r9).bind fun z15 =>
    match z15 with
    | (.inl (), E_15, (k_15, n_15)) =>
    (lp_fE_areSame_13 fl d w N_9 C E_15 k_15 n_15 v1 v2 (v3 + (1 : Int32)))
    | (.inr e15, E_15, (k_15, n_15)) =>
    (some (.inr e15, N_9, E_15, (k_15, n_15))))
    else
    some (.inl false, N_9, E_9, (k_9, n_9)))
    | (.inr e9, N_9, E_9, (k_9, n_9)) =>
    (some (.inr e9, N_9, E_9, (k_9, n_9))))
    | (.inr e7, N_7, E_7, (k_7, n_7)) =>
    (some (.inr e7, N_7, E_7, (k_7, n_7)))
def fE_areSame (fl : Nat) (d : Nat) (N : cN) (C : cC) (E : cE) (k n : Nat) (p1 p2 : Int32) : Option (((Bool) ⊕ Nat) × cN × cE × (Nat × Nat)) :=
  match E with
  | (fi, se, op, fu, ma) =>
  (fE_open (fi, se, (0 : Int32), fu, ma) k n p1 p2).bind fun z1 =>
  match z1 with
  | (.inl (), E_1, (k_1, n_1)) =>
  (lp_fE_areSame_13 fl d fl N C E_1 k_1 n_1 p1 p2 (0 : Int32))
  | (.inr e1, E_1, (k_1, n_1)) =>
  (some (.inr e1, N, E_1, (k_1, n_1)))
set_option maxHeartbeats 4000000 in
set_option maxRecDepth 100000 in
theorem ok_lp_fE_areSame_13 {fl d : Nat} : ∀ {w : Nat} {N : cN} {C : cC} {E : cE} {F : cF} {P : cP} {Q : cQ} {k n : Nat} {v1 : Int32} {v2 : Int32} {v3 : Int32} {rv : (Bool) ⊕ Nat} {N' : cN} {E' : cE} {k' n' : Nat} (h : lp_fE_areSame_13 fl d w N C E k n v1 v2 v3 = some (rv, N', E', (k', n'))) (D : Nat) (hD : d + 4 ≤ D), am_Ev D 50 0 (fun _ => 0) (13, [(0, .ref 10), (1, .int v1), (2, .int v2), (3, .int v3)], [], (W9 N C E F P Q), k, n) (am_oB rv, W9 N' C E' F P Q, k', n') := by
  intro w
  induction w with
  | zero => intros; rename_i h _ _; cases h
  | succ w ih0 =>
    intro N C E F P Q k n v1 v2 v3 rv N' E' k' n' h D hD
    have ih := fun {N} {C} {E} {F} {P} {Q} {k} {n} {v1} {v2} {v3} {rv} {N'} {E'} {k'} {n'} h => @ih0 N C E F P Q k n v1 v2 v3 rv N' E' k' n' h D hD
    unfold lp_fE_areSame_13 at h
    obtain ⟨fi, se, op, fu, ma⟩ := E
    try dsimp only at h
    refine am_ev_st 3 (f' := am_br (op ≤ 0) 106 17 [(0, .ref 10), (1, .int v1), (2, .int v2), (3, .int v3)] [] (W9 N C (fi, se, op, fu, ma) F P Q) k n) (g := True ∧ True ∧ True ∧ True) (by with_unfolding_all rfl) ⟨trivial, trivial, trivial, trivial⟩ ?_
    by_cases c2 : op ≤ 0
    · rw [if_pos c2] at h
      refine am_ev_pos c2 ?_
      refine am_ev_st 3 (f' := am_br (op ≠ 0) 117 110 [(0, .ref 10), (1, .int v1), (2, .int v2), (3, .int v3)] [] (W9 N C (fi, se, op, fu, ma) F P Q) k n) (g := True ∧ True ∧ True ∧ True) (by with_unfolding_all rfl) ⟨trivial, trivial, trivial, trivial⟩ ?_
      by_cases c3 : op ≠ 0
      · rw [if_pos c3] at h
        refine am_ev_pos c3 ?_
        refine am_ev_st 1 (f' := (118, [(0, .ref 10), (1, .int v1), (2, .int v2), (3, .int v3)], [.int (0 : Int32)], (W9 N C (fi, se, op, fu, ma) F P Q), k, n)) (g := True ∧ True) (by with_unfolding_all rfl) ⟨trivial, trivial⟩ ?_
        cases h
        exact am_ev_ret 0 0 0 rfl .boolean rfl am_n0 rfl
      · rw [if_neg c3] at h
        refine am_ev_neg c3 ?_
        refine am_ev_st 2 (f' := (118, [(0, .ref 10), (1, .int v1), (2, .int v2), (3, .int v3)], [.int (1 : Int32)], (W9 N C (fi, se, op, fu, ma) F P Q), k, n)) (g := True ∧ True ∧ True) (by with_unfolding_all rfl) ⟨trivial, trivial, trivial⟩ ?_
        cases h
        exact am_ev_ret 0 0 0 rfl .boolean rfl am_n1 rfl
    · rw [if_neg c2] at h
      refine am_ev_neg c2 ?_
      refine am_ev_st 3 (f' := am_br ((1000000 : Int32) ≤ v3) 106 23 [(0, .ref 10), (1, .int v1), (2, .int v2), (3, .int v3)] [] (W9 N C (fi, se, op, fu, ma) F P Q) k n) (g := True ∧ True ∧ True ∧ True) (by with_unfolding_all rfl) ⟨trivial, trivial, trivial, trivial⟩ ?_
      by_cases c4 : (1000000 : Int32) ≤ v3
      · rw [if_pos c4] at h
        refine am_ev_pos c4 ?_
        refine am_ev_st 3 (f' := am_br (op ≠ 0) 117 110 [(0, .ref 10), (1, .int v1), (2, .int v2), (3, .int v3)] [] (W9 N C (fi, se, op, fu, ma) F P Q) k n) (g := True ∧ True ∧ True ∧ True) (by with_unfolding_all rfl) ⟨trivial, trivial, trivial, trivial⟩ ?_
        by_cases c5 : op ≠ 0
        · rw [if_pos c5] at h
          refine am_ev_pos c5 ?_
          refine am_ev_st 1 (f' := (118, [(0, .ref 10), (1, .int v1), (2, .int v2), (3, .int v3)], [.int (0 : Int32)], (W9 N C (fi, se, op, fu, ma) F P Q), k, n)) (g := True ∧ True) (by with_unfolding_all rfl) ⟨trivial, trivial⟩ ?_
          cases h
          exact am_ev_ret 0 0 0 rfl .boolean rfl am_n0 rfl
        · rw [if_neg c5] at h
          refine am_ev_neg c5 ?_
          refine am_ev_st 2 (f' := (118, [(0, .ref 10), (1, .int v1), (2, .int v2), (3, .int v3)], [.int (1 : Int32)], (W9 N C (fi, se, op, fu, ma) F P Q), k, n)) (g := True ∧ True ∧ True) (by with_unfolding_all rfl) ⟨trivial, trivial, trivial⟩ ?_
          cases h
          exact am_ev_ret 0 0 0 rfl .boolean rfl am_n1 rfl
      · rw [if_neg c4] at h
        refine am_ev_neg c4 ?_
        refine am_ev_st 10 (f' := (42, [(0, .ref 10), (1, .int v1), (2, .int v2), (3, .int v3)], [.ref 11, .ref 10, .ref 10], (W9 N C (fi, se, (op - (1 : Int32)), fu, ma) F P Q), k, n)) (g := True ∧ True ∧ True ∧ True ∧ True ∧ True ∧ True ∧ True ∧ True ∧ True ∧ True) (by with_unfolding_all rfl) ⟨trivial, trivial, trivial, trivial, trivial, trivial, trivial, trivial, trivial, trivial, trivial⟩ ?_
        replace h := Option.bind_eq_some_iff.mp h
        obtain ⟨r6, hc6, h⟩ := h
        try dsimp only at h
        refine am_ev_call (.invokevirtual 84) 51 2 558 [.ref 10, .ref 11] [.ref 10] rfl rfl rfl rfl (ok_fE_valueOf hc6 D (by omega)) rfl ?_
        replace h := Option.bind_eq_some_iff.mp h
        obtain ⟨⟨r7 | e7, N_7, E_7, ⟨k_7, n_7⟩⟩, hc7, h⟩ := h
        · dsimp only at h
          refine am_ev_call (.invokevirtual 88) 48 2 562 [.ref 10, .int r6] [] rfl rfl rfl rfl (ok_fE_headForm hc7 D (by omega)) rfl ?_
          refine am_ev_st 5 (f' := (56, [(4, .int r7), (0, .ref 10), (1, .int v1), (2, .int v2), (3, .int v3)], [.ref 12, .ref 10, .ref 10], (W9 N_7 C E_7 F P Q), k_7, n_7)) (g := True ∧ True ∧ True ∧ True ∧ True ∧ True) (by with_unfolding_all rfl) ⟨trivial, trivial, trivial, trivial, trivial, trivial⟩ ?_
          replace h := Option.bind_eq_some_iff.mp h
          obtain ⟨r8, hc8, h⟩ := h
          try dsimp only at h
          refine am_ev_call (.invokevirtual 84) 51 2 558 [.ref 10, .ref 12] [.ref 10] rfl rfl rfl rfl (ok_fE_valueOf_10_12 hc8 D (by omega)) rfl ?_
          replace h := Option.bind_eq_some_iff.mp h
          obtain ⟨⟨r9 | e9, N_9, E_9, ⟨k_9, n_9⟩⟩, hc9, h⟩ := h
          · dsimp only at h
            refine am_ev_call (.invokevirtual 88) 48 2 562 [.ref 10, .int r8] [] rfl rfl rfl rfl (ok_fE_headForm hc9 D (by omega)) rfl ?_
            refine am_ev_st 4 (f' := (69, [(5, .int r9), (4, .int r7), (0, .ref 10), (1, .int v1), (2, .int v2), (3, .int v3)], [.int r9, .int r7, .ref 10], (W9 N_9 C E_9 F P Q), k_9, n_9)) (g := True ∧ True ∧ True ∧ True ∧ True) (by with_unfolding_all rfl) ⟨trivial, trivial, trivial, trivial, trivial⟩ ?_
            replace h := Option.bind_eq_some_iff.mp h
            obtain ⟨r10, hc10, h⟩ := h
            try dsimp only at h
            refine am_ev_call (.invokevirtual 91) 52 4 563 [.ref 10, .int r7, .int r9] [] rfl rfl rfl rfl (ok_fE_mayBeSame hc10 D (by omega)) rfl ?_
            refine am_ev_st 1 (f' := am_br ((am_bz r10) ≠ 0) 77 72 [(5, .int r9), (4, .int r7), (0, .ref 10), (1, .int v1), (2, .int v2), (3, .int v3)] [] (W9 N_9 C E_9 F P Q) k_9 n_9) (g := True ∧ True) (by with_unfolding_all rfl) ⟨trivial, trivial⟩ ?_
            by_cases c11 : (am_bz r10) ≠ 0
            · rw [if_pos c11] at h
              refine am_ev_pos c11 ?_
              refine am_ev_st 3 (f' := (83, [(5, .int r9), (4, .int r7), (0, .ref 10), (1, .int v1), (2, .int v2), (3, .int v3)], [.int r7, .ref 1], (W9 N_9 C E_9 F P Q), k_9, n_9)) (g := True ∧ True ∧ True ∧ True) (by with_unfolding_all rfl) ⟨trivial, trivial, trivial, trivial⟩ ?_
              replace h := Option.bind_eq_some_iff.mp h
              obtain ⟨r12, hc12, h⟩ := h
              try dsimp only at h
              refine am_ev_call (.invokevirtual 52) 28 2 505 [.ref 1, .int r7] [] rfl rfl rfl rfl (ok_fN_kindOf hc12 D (by omega)) rfl ?_
              replace h := Option.bind_eq_some_iff.mp h
              obtain ⟨r13, hc13, h⟩ := h
              try dsimp only at h
              refine am_ev_call (.invokestatic 95) 69 3 567 [.int r12] [] rfl rfl rfl rfl (ok_fJ_hasParts hc13 D (by omega)) rfl ?_
              refine am_ev_st 1 (f' := am_br ((am_bz r13) = 0) 100 89 [(5, .int r9), (4, .int r7), (0, .ref 10), (1, .int v1), (2, .int v2), (3, .int v3)] [] (W9 N_9 C E_9 F P Q) k_9 n_9) (g := True ∧ True) (by with_unfolding_all rfl) ⟨trivial, trivial⟩ ?_
              by_cases c14 : (am_bz r13) = 0
              · rw [if_pos c14] at h
                refine am_ev_pos c14 ?_
                refine am_ev_st 2 (f' := (13, [(3, .int (v3 + (1 : Int32))), (5, .int r9), (4, .int r7), (0, .ref 10), (1, .int v1), (2, .int v2)], [], (W9 N_9 C E_9 F P Q), k_9, n_9)) (g := True ∧ True ∧ True) (by with_unfolding_all rfl) ⟨trivial, trivial, trivial⟩ ?_
                refine am_ev_drop [3, 4, 5, 0] rfl rfl ?_
                exact ih h
              · rw [if_neg c14] at h
                refine am_ev_neg c14 ?_
                refine am_ev_st 3 (f' := (97, [(5, .int r9), (4, .int r7), (0, .ref 10), (1, .int v1), (2, .int v2), (3, .int v3)], [.int r9, .int r7, .ref 10], (W9 N_9 C E_9 F P Q), k_9, n_9)) (g := True ∧ True ∧ True ∧ True) (by with_unfolding_all rfl) ⟨trivial, trivial, trivial, trivial⟩ ?_
                replace h := Option.bind_eq_some_iff.mp h
                obtain ⟨⟨⟨⟩ | e15, E_15, ⟨k_15, n_15⟩⟩, hc15, h⟩ := h
                · dsimp only at h
                  refine am_ev_call (.invokevirtual 98) 53 4 568 [.ref 10, .int r7, .int r9] [] rfl rfl rfl rfl (ok_fE_openParts hc15 D (by omega)) rfl ?_
                  refine am_ev_st 2 (f' := (13, [(3, .int (v3 + (1 : Int32))), (5, .int r9), (4, .int r7), (0, .ref 10), (1, .int v1), (2, .int v2)], [], (W9 N_9 C E_15 F P Q), k_15, n_15)) (g := True ∧ True ∧ True) (by with_unfolding_all rfl) ⟨trivial, trivial, trivial⟩ ?_
                  refine am_ev_drop [3, 4, 5, 0] rfl rfl ?_
                  exact ih h
                · dsimp only at h
                  cases h
                  exact am_ev_callx (.invokevirtual 98) 53 4 568 [.ref 10, .int r7, .int r9] [] rfl rfl rfl rfl (ok_fE_openParts hc15 D (by omega)) rfl rfl rfl
            · rw [if_neg c11] at h
              refine am_ev_neg c11 ?_
              refine am_ev_st 1 (f' := (76, [(5, .int r9), (4, .int r7), (0, .ref 10), (1, .int v1), (2, .int v2), (3, .int v3)], [.int (0 : Int32)], (W9 N_9 C E_9 F P Q), k_9, n_9)) (g := True ∧ True) (by with_unfolding_all rfl) ⟨trivial, trivial⟩ ?_
              cases h
              exact am_ev_ret 0 0 0 rfl .boolean rfl am_n0 rfl
          · dsimp only at h
            cases h
            exact am_ev_callx (.invokevirtual 88) 48 2 562 [.ref 10, .int r8] [] rfl rfl rfl rfl (ok_fE_headForm hc9 D (by omega)) rfl rfl rfl
        · dsimp only at h
          cases h
          exact am_ev_callx (.invokevirtual 88) 48 2 562 [.ref 10, .int r6] [] rfl rfl rfl rfl (ok_fE_headForm hc7 D (by omega)) rfl rfl rfl
set_option maxHeartbeats 4000000 in
set_option maxRecDepth 100000 in
theorem ok_fE_areSame {fl d : Nat} {N : cN} {C : cC} {E : cE} {F : cF} {P : cP} {Q : cQ} {k n : Nat} {p1 p2 : Int32} {rv : (Bool) ⊕ Nat} {N' : cN} {E' : cE} {k' n' : Nat} (h : fE_areSame fl d N C E k n p1 p2 = some (rv, N', E', (k', n'))) (D : Nat) (hD : d + 5 ≤ D) : am_Call D 50 [.ref 10, .int p1, .int p2] (W9 N C E F P Q) k n (am_oB rv, W9 N' C E' F P Q, k', n') := by
  unfold fE_areSame at h
  obtain ⟨D, rfl⟩ : ∃ D', D = D' + 1 := ⟨D - 1, by omega⟩
  have hD : d + 4 ≤ D := by omega
  refine am_call_run (by decide) (by decide) rfl (Nat.le_of_ble_eq_true rfl) (by decide) (L := [(0, .ref 10), (1, .int p1), (2, .int p2)]) rfl ?_
  obtain ⟨fi, se, op, fu, ma⟩ := E
  try dsimp only at h
  refine am_ev_st 6 (f' := (8, [(0, .ref 10), (1, .int p1), (2, .int p2)], [.int p2, .int p1, .ref 10], (W9 N C (fi, se, (0 : Int32), fu, ma) F P Q), k, n)) (g := True ∧ True ∧ True ∧ True ∧ True ∧ True ∧ True) (by with_unfolding_all rfl) ⟨trivial, trivial, trivial, trivial, trivial, trivial, trivial⟩ ?_
  replace h := Option.bind_eq_some_iff.mp h
  obtain ⟨⟨⟨⟩ | e1, E_1, ⟨k_1, n_1⟩⟩, hc1, h⟩ := h
  · dsimp only at h
    refine am_ev_call (.invokevirtual 79) 54 4 552 [.ref 10, .int p1, .int p2] [] rfl rfl rfl rfl (ok_fE_open hc1 D (by omega)) rfl ?_
    refine am_ev_st 2 (f' := (13, [(3, .int (0 : Int32)), (0, .ref 10), (1, .int p1), (2, .int p2)], [], (W9 N C E_1 F P Q), k_1, n_1)) (g := True ∧ True ∧ True) (by with_unfolding_all rfl) ⟨trivial, trivial, trivial⟩ ?_
    refine am_ev_drop [1, 2, 3, 0] rfl rfl ?_
    exact ok_lp_fE_areSame_13 h D hD
  · dsimp only at h
    cases h
    exact am_ev_callx (.invokevirtual 79) 54 4 552 [.ref 10, .int p1, .int p2] [] rfl rfl rfl rfl (ok_fE_open hc1 D (by omega)) rfl rfl rfl
def fF_G (fl : Nat) : Nat → Nat → cN → cC → cE → cF → Nat → Nat → Int32 → Int32 → Option (((Int32) ⊕ Nat) × cN × cE × cF × (Nat × Nat))
  | 0, _, _, _, _, _, _, _, _, _ => none
  | d + 1, z, N, C, E, F, k, n, p1, p2 => match z with
    | 0 =>
      (fN_leftOf N p1).bind fun z1 =>
      match z1 with
      | (r1) =>
      (fN_rightOf N p1).bind fun z2 =>
      match z2 with
      | (r2) =>
      (fN_kindOf N p1).bind fun z3 =>
      match z3 with
      | (r3) =>
      if r3 = (0 : Int32) then
      ((fF_typeOfVariable d N F k n r1).bind fun z5 =>
      match z5 with
      | (.inl r5, N_5, (k_5, n_5)) =>
      (some (.inl r5, N_5, E, F, (k_5, n_5)))
      | (.inr e5, N_5, (k_5, n_5)) =>
      (some (.inr e5, N_5, E, F, (k_5, n_5))))
      else
      if r3 = (1 : Int32) then
      ((fN_add N k n (1 : Int32) (r1 + (1 : Int32)) (-1 : Int32)).bind fun z7 =>
      match z7 with
      | (r7, N_7, (k_7, n_7)) =>
      some (.inl r7, N_7, E, F, (k_7, n_7)))
      else
      if r3 = (2 : Int32) then
      ((fF_G fl d 1 N C E F k n r1 r2).bind fun z9 =>
      match z9 with
      | (.inl r9, N_9, E_9, F_9, (k_9, n_9)) =>
      (some (.inl r9, N_9, E_9, F_9, (k_9, n_9)))
      | (.inr e9, N_9, E_9, F_9, (k_9, n_9)) =>
      (some (.inr e9, N_9, E_9, F_9, (k_9, n_9))))
      else
      if r3 = (3 : Int32) then
      ((fF_G fl d 2 N C E F k n r1 r2).bind fun z11 =>
      match z11 with
      | (.inl r11, N_11, E_11, F_11, (k_11, n_11)) =>
      (some (.inl r11, N_11, E_11, F_11, (k_11, n_11)))
      | (.inr e11, N_11, E_11, F_11, (k_11, n_11)) =>
      (some (.inr e11, N_11, E_11, F_11, (k_11, n_11))))
      else
      if r3 = (4 : Int32) then
      ((fF_G fl d 3 N C E F k n r1 r2).bind fun z13 =>
      match z13 with
      | (.inl r13, N_13, E_13, F_13, (k_13, n_13)) =>
      (some (.inl r13, N_13, E_13, F_13, (k_13, n_13)))
      | (.inr e13, N_13, E_13, F_13, (k_13, n_13)) =>
      (some (.inr e13, N_13, E_13, F_13, (k_13, n_13))))
      else
      if r3 = (5 : Int32) then
      ((fC_typeAt C r1).bind fun z15 =>
      match z15 with
      | (r15) =>
      some (.inl r15, N, E, F, (k, n)))
      else
      some (.inl (-1 : Int32), N, E, F, (k, n))
    | 1 =>
      (fF_G fl d 0 N C E F k n p1 0).bind fun z1 =>
      match z1 with
      | (.inl r1, N_1, E_1, F_1, (k_1, n_1)) =>
      ((fF_levelOf fl d N_1 C E_1 k_1 n_1 r1).bind fun z2 =>
      match z2 with
      | (.inl r2, N_2, E_2, (k_2, n_2)) =>
      ((fF_open F_1 k_2 n_2 p1).bind fun z3 =>
      match z3 with
      | (.inl (), F_3, (k_3, n_3)) =>
      ((fF_G fl d 0 N_2 C E_2 F_3 k_3 n_3 p2 0).bind fun z4 =>
      match z4 with
      | (.inl r4, N_4, E_4, F_4, (k_4, n_4)) =>
      ((fF_levelOf fl d N_4 C E_4 k_4 n_4 r4).bind fun z5 =>
      match z5 with
      | (.inl r5, N_5, E_5, (k_5, n_5)) =>
      (match F_4 with
      | (tt_4, tc_4) =>
      (fN_add N_5 k_5 n_5 (1 : Int32) (if r2 < r5 then r5 else r2) (-1 : Int32)).bind fun z6 =>
      match z6 with
      | (r6, N_6, (k_6, n_6)) =>
      some (.inl r6, N_6, E_5, (tt_4, (tc_4 - (1 : Int32))), (k_6, n_6)))
      | (.inr e5, N_5, E_5, (k_5, n_5)) =>
      (some (.inr e5, N_5, E_5, F_4, (k_5, n_5))))
      | (.inr e4, N_4, E_4, F_4, (k_4, n_4)) =>
      (some (.inr e4, N_4, E_4, F_4, (k_4, n_4))))
      | (.inr e3, F_3, (k_3, n_3)) =>
      (some (.inr e3, N_2, E_2, F_3, (k_3, n_3))))
      | (.inr e2, N_2, E_2, (k_2, n_2)) =>
      (some (.inr e2, N_2, E_2, F_1, (k_2, n_2))))
      | (.inr e1, N_1, E_1, F_1, (k_1, n_1)) =>
      (some (.inr e1, N_1, E_1, F_1, (k_1, n_1)))
    | 2 =>
      (fF_G fl d 0 N C E F k n p1 0).bind fun z1 =>
      match z1 with
      | (.inl r1, N_1, E_1, F_1, (k_1, n_1)) =>
      ((fF_levelOf fl d N_1 C E_1 k_1 n_1 r1).bind fun z2 =>
      match z2 with
      | (.inl r2, N_2, E_2, (k_2, n_2)) =>
      ((fF_open F_1 k_2 n_2 p1).bind fun z3 =>
      match z3 with
      | (.inl (), F_3, (k_3, n_3)) =>
      ((fF_G fl d 0 N_2 C E_2 F_3 k_3 n_3 p2 0).bind fun z4 =>
      match z4 with
      | (.inl r4, N_4, E_4, F_4, (k_4, n_4)) =>
      (match F_4 with
      | (tt_4, tc_4) =>
      (fN_add N_4 k_4 n_4 (2 : Int32) p1 r4).bind fun z5 =>
      match z5 with
      | (r5, N_5, (k_5, n_5)) =>
      (fF_notTooMuch N_5 k_5 n_5 r5).bind fun z6 =>
      match z6 with
      | (.inl r6, (k_6, n_6)) =>
      (some (.inl r6, N_5, E_4, (tt_4, (tc_4 - (1 : Int32))), (k_6, n_6)))
      | (.inr e6, (k_6, n_6)) =>
      (some (.inr e6, N_5, E_4, (tt_4, (tc_4 - (1 : Int32))), (k_6, n_6))))
      | (.inr e4, N_4, E_4, F_4, (k_4, n_4)) =>
      (some (.inr e4, N_4, E_4, F_4, (k_4, n_4))))
      | (.inr e3, F_3, (k_3, n_3)) =>
      (some (.inr e3, N_2, E_2, F_3, (k_3, n_3))))
      | (.inr e2, N_2, E_2, (k_2, n_2)) =>
      (some (.inr e2, N_2, E_2, F_1, (k_2, n_2))))
      | (.inr e1, N_1, E_1, F_1, (k_1, n_1)) =>
      (some (.inr e1, N_1, E_1, F_1, (k_1, n_1)))
    | _ =>
      (fF_G fl d 0 N C E F k n p1 0).bind fun z1 =>
      match z1 with
      | (.inl r1, N_1, E_1, F_1, (k_1, n_1)) =>
      ((fE_headForm fl d N_1 C E_1 k_1 n_1 r1).bind fun z2 =>
      match z2 with
      | (.inl r2, N_2, E_2, (k_2, n_2)) =>
      ((fN_kindOf N_2 r2).bind fun z3 =>
      match z3 with
      | (r3) =>
      if r3 = (2 : Int32) then
      ((fF_G fl d 0 N_2 C E_2 F_1 k_2 n_2 p2 0).bind fun z5 =>
      match z5 with
      | (.inl r5, N_5, E_5, F_5, (k_5, n_5)) =>
      ((fN_leftOf N_5 r2).bind fun z6 =>
      match z6 with
      | (r6) =>
      (fE_areSame fl d N_5 C E_5 k_5 n_5 r5 r6).bind fun z7 =>
      match z7 with
      | (.inl r7, N_7, E_7, (k_7, n_7)) =>
      (if (am_bz r7) ≠ 0 then
      ((fN_rightOf N_7 r2).bind fun z9 =>
      match z9 with
      | (r9) =>
      (fN_changed d N_7 k_7 n_7 r9 (0 : Int32) p2 (-1 : Int32)).bind fun z10 =>
      match z10 with
      | (r10, N_10, (k_10, n_10)) =>
      (fF_notTooMuch N_10 k_10 n_10 r10).bind fun z11 =>
      match z11 with
      | (.inl r11, (k_11, n_11)) =>
      (some (.inl r11, N_10, E_7, F_5, (k_11, n_11)))
      | (.inr e11, (k_11, n_11)) =>
      (some (.inr e11, N_10, E_7, F_5, (k_11, n_11))))
      else
      some (.inr 1, N_7, E_7, F_5, ((k_7 + 1), (n_7 + 6))))
      | (.inr e7, N_7, E_7, (k_7, n_7)) =>
      (some (.inr e7, N_7, E_7, F_5, (k_7, n_7))))
      | (.inr e5, N_5, E_5, F_5, (k_5, n_5)) =>
      (some (.inr e5, N_5, E_5, F_5, (k_5, n_5))))
      else
      some (.inr 1, N_2, E_2, F_1, ((k_2 + 1), (n_2 + 6))))
      | (.inr e2, N_2, E_2, (k_2, n_2)) =>
      (some (.inr e2, N_2, E_2, F_1, (k_2, n_2))))
      | (.inr e1, N_1, E_1, F_1, (k_1, n_1)) =>
      (some (.inr e1, N_1, E_1, F_1, (k_1, n_1)))
set_option maxHeartbeats 8000000 in
set_option maxRecDepth 100000 in
theorem ok_fF_G {fl : Nat} : ∀ {d : Nat}, (∀ {N : cN} {C : cC} {E : cE} {F : cF} {P : cP} {Q : cQ} {k n : Nat} {p1 : Int32} {rv : (Int32) ⊕ Nat} {N' : cN} {E' : cE} {F' : cF} {k' n' : Nat} (h : fF_G fl d 0 N C E F k n p1 0 = some (rv, N', E', F', (k', n'))) (D : Nat) (hD : d + 5 ≤ D), am_Call D 9 [.ref 13, .int p1] (W9 N C E F P Q) k n (am_oI rv, W9 N' C E' F' P Q, k', n')) ∧
  (∀ {N : cN} {C : cC} {E : cE} {F : cF} {P : cP} {Q : cQ} {k n : Nat} {p1 p2 : Int32} {rv : (Int32) ⊕ Nat} {N' : cN} {E' : cE} {F' : cF} {k' n' : Nat} (h : fF_G fl d 1 N C E F k n p1 p2 = some (rv, N', E', F', (k', n'))) (D : Nat) (hD : d + 5 ≤ D), am_Call D 12 [.ref 13, .int p1, .int p2] (W9 N C E F P Q) k n (am_oI rv, W9 N' C E' F' P Q, k', n')) ∧
  (∀ {N : cN} {C : cC} {E : cE} {F : cF} {P : cP} {Q : cQ} {k n : Nat} {p1 p2 : Int32} {rv : (Int32) ⊕ Nat} {N' : cN} {E' : cE} {F' : cF} {k' n' : Nat} (h : fF_G fl d 2 N C E F k n p1 p2 = some (rv, N', E', F', (k', n'))) (D : Nat) (hD : d + 5 ≤ D), am_Call D 13 [.ref 13, .int p1, .int p2] (W9 N C E F P Q) k n (am_oI rv, W9 N' C E' F' P Q, k', n')) ∧
  (∀ {N : cN} {C : cC} {E : cE} {F : cF} {P : cP} {Q : cQ} {k n : Nat} {p1 p2 : Int32} {rv : (Int32) ⊕ Nat} {N' : cN} {E' : cE} {F' : cF} {k' n' : Nat} (h : fF_G fl d 3 N C E F k n p1 p2 = some (rv, N', E', F', (k', n'))) (D : Nat) (hD : d + 5 ≤ D), am_Call D 14 [.ref 13, .int p1, .int p2] (W9 N C E F P Q) k n (am_oI rv, W9 N' C E' F' P Q, k', n')) := by
  intro d
  induction d with
  | zero => exact ⟨(by intros; rename_i h _ _; cases h), (by intros; rename_i h _ _; cases h), (by intros; rename_i h _ _; cases h), (by intros; rename_i h _ _; cases h)⟩
  | succ d ih =>
    refine ⟨?_, ?_, ?_, ?_⟩
    · intro N C E F P Q k n p1 rv N' E' F' k' n' h D hD
      unfold fF_G at h
      try dsimp only at h
      obtain ⟨D, rfl⟩ : ∃ D', D = D' + 1 := ⟨D - 1, by omega⟩
      refine am_call_run (by decide) (by decide) rfl (Nat.le_of_ble_eq_true rfl) (by decide) (L := [(0, .ref 13), (1, .int p1)]) rfl ?_
      refine am_ev_st 3 (f' := (5, [(0, .ref 13), (1, .int p1)], [.int p1, .ref 1], (W9 N C E F P Q), k, n)) (g := True ∧ True ∧ True ∧ True) (by with_unfolding_all rfl) ⟨trivial, trivial, trivial, trivial⟩ ?_
      replace h := Option.bind_eq_some_iff.mp h
      obtain ⟨r1, hc1, h⟩ := h
      try dsimp only at h
      refine am_ev_call (.invokevirtual 31) 29 2 456 [.ref 1, .int p1] [] rfl rfl rfl rfl (ok_fN_leftOf hc1 D (by omega)) rfl ?_
      refine am_ev_st 4 (f' := (14, [(2, .int r1), (0, .ref 13), (1, .int p1)], [.int p1, .ref 1], (W9 N C E F P Q), k, n)) (g := True ∧ True ∧ True ∧ True ∧ True) (by with_unfolding_all rfl) ⟨trivial, trivial, trivial, trivial, trivial⟩ ?_
      replace h := Option.bind_eq_some_iff.mp h
      obtain ⟨r2, hc2, h⟩ := h
      try dsimp only at h
      refine am_ev_call (.invokevirtual 37) 30 2 457 [.ref 1, .int p1] [] rfl rfl rfl rfl (ok_fN_rightOf hc2 D (by omega)) rfl ?_
      refine am_ev_st 4 (f' := (23, [(3, .int r2), (2, .int r1), (0, .ref 13), (1, .int p1)], [.int p1, .ref 1], (W9 N C E F P Q), k, n)) (g := True ∧ True ∧ True ∧ True ∧ True) (by with_unfolding_all rfl) ⟨trivial, trivial, trivial, trivial, trivial⟩ ?_
      replace h := Option.bind_eq_some_iff.mp h
      obtain ⟨r3, hc3, h⟩ := h
      try dsimp only at h
      refine am_ev_call (.invokevirtual 40) 28 2 458 [.ref 1, .int p1] [] rfl rfl rfl rfl (ok_fN_kindOf hc3 D (by omega)) rfl ?_
      refine am_ev_st 1 (f' := ((am_tg [(0, 64), (1, 70), (2, 92), (3, 99), (4, 106), (5, 83)] 113 r3), [(3, .int r2), (2, .int r1), (0, .ref 13), (1, .int p1)], [], (W9 N C E F P Q), k, n)) (g := True ∧ True) (by with_unfolding_all rfl) ⟨trivial, trivial⟩ ?_
      by_cases c4 : r3 = (0 : Int32)
      · rw [if_pos c4] at h
        refine am_ev_sweq c4 ?_
        refine am_ev_st 2 (f' := (66, [(3, .int r2), (2, .int r1), (0, .ref 13), (1, .int p1)], [.int r1, .ref 13], (W9 N C E F P Q), k, n)) (g := True ∧ True ∧ True) (by with_unfolding_all rfl) ⟨trivial, trivial, trivial⟩ ?_
        replace h := Option.bind_eq_some_iff.mp h
        obtain ⟨⟨r5 | e5, N_5, ⟨k_5, n_5⟩⟩, hc5, h⟩ := h
        · dsimp only at h
          refine am_ev_call (.invokevirtual 43) 11 2 459 [.ref 13, .int r1] [] rfl rfl rfl rfl (ok_fF_typeOfVariable hc5 D (by omega)) rfl ?_
          cases h
          exact am_ev_ret 0 0 0 rfl .int rfl rfl rfl
        · dsimp only at h
          cases h
          exact am_ev_callx (.invokevirtual 43) 11 2 459 [.ref 13, .int r1] [] rfl rfl rfl rfl (ok_fF_typeOfVariable hc5 D (by omega)) rfl rfl rfl
      rw [if_neg c4] at h
      refine am_ev_swne c4 ?_
      by_cases c6 : r3 = (1 : Int32)
      · rw [if_pos c6] at h
        refine am_ev_sweq c6 ?_
        refine am_ev_st 7 (f' := (79, [(3, .int r2), (2, .int r1), (0, .ref 13), (1, .int p1)], [.int (-1 : Int32), .int (r1 + (1 : Int32)), .int (1 : Int32), .ref 1], (W9 N C E F P Q), k, n)) (g := True ∧ True ∧ True ∧ True ∧ True ∧ True ∧ True ∧ True) (by with_unfolding_all rfl) ⟨trivial, trivial, trivial, trivial, trivial, trivial, trivial, trivial⟩ ?_
        replace h := Option.bind_eq_some_iff.mp h
        obtain ⟨⟨r7, N_7, ⟨k_7, n_7⟩⟩, hc7, h⟩ := h
        try dsimp only at h
        refine am_ev_call (.invokevirtual 46) 38 6 486 [.ref 1, .int (1 : Int32), .int (r1 + (1 : Int32)), .int (-1 : Int32)] [] rfl rfl rfl rfl (ok_fN_add hc7 D (by omega)) rfl ?_
        cases h
        exact am_ev_ret 0 0 0 rfl .int rfl rfl rfl
      rw [if_neg c6] at h
      refine am_ev_swne c6 ?_
      by_cases c8 : r3 = (2 : Int32)
      · rw [if_pos c8] at h
        refine am_ev_sweq c8 ?_
        refine am_ev_st 3 (f' := (95, [(3, .int r2), (2, .int r1), (0, .ref 13), (1, .int p1)], [.int r2, .int r1, .ref 13], (W9 N C E F P Q), k, n)) (g := True ∧ True ∧ True ∧ True) (by with_unfolding_all rfl) ⟨trivial, trivial, trivial, trivial⟩ ?_
        replace h := Option.bind_eq_some_iff.mp h
        obtain ⟨⟨r9 | e9, N_9, E_9, F_9, ⟨k_9, n_9⟩⟩, hc9, h⟩ := h
        · dsimp only at h
          refine am_ev_call (.invokevirtual 55) 12 4 488 [.ref 13, .int r1, .int r2] [] rfl rfl rfl rfl (ih.2.1 hc9 D (by omega)) rfl ?_
          cases h
          exact am_ev_ret 0 0 0 rfl .int rfl rfl rfl
        · dsimp only at h
          cases h
          exact am_ev_callx (.invokevirtual 55) 12 4 488 [.ref 13, .int r1, .int r2] [] rfl rfl rfl rfl (ih.2.1 hc9 D (by omega)) rfl rfl rfl
      rw [if_neg c8] at h
      refine am_ev_swne c8 ?_
      by_cases c10 : r3 = (3 : Int32)
      · rw [if_pos c10] at h
        refine am_ev_sweq c10 ?_
        refine am_ev_st 3 (f' := (102, [(3, .int r2), (2, .int r1), (0, .ref 13), (1, .int p1)], [.int r2, .int r1, .ref 13], (W9 N C E F P Q), k, n)) (g := True ∧ True ∧ True ∧ True) (by with_unfolding_all rfl) ⟨trivial, trivial, trivial, trivial⟩ ?_
        replace h := Option.bind_eq_some_iff.mp h
        obtain ⟨⟨r11 | e11, N_11, E_11, F_11, ⟨k_11, n_11⟩⟩, hc11, h⟩ := h
        · dsimp only at h
          refine am_ev_call (.invokevirtual 59) 13 4 533 [.ref 13, .int r1, .int r2] [] rfl rfl rfl rfl (ih.2.2.1 hc11 D (by omega)) rfl ?_
          cases h
          exact am_ev_ret 0 0 0 rfl .int rfl rfl rfl
        · dsimp only at h
          cases h
          exact am_ev_callx (.invokevirtual 59) 13 4 533 [.ref 13, .int r1, .int r2] [] rfl rfl rfl rfl (ih.2.2.1 hc11 D (by omega)) rfl rfl rfl
      rw [if_neg c10] at h
      refine am_ev_swne c10 ?_
      by_cases c12 : r3 = (4 : Int32)
      · rw [if_pos c12] at h
        refine am_ev_sweq c12 ?_
        refine am_ev_st 3 (f' := (109, [(3, .int r2), (2, .int r1), (0, .ref 13), (1, .int p1)], [.int r2, .int r1, .ref 13], (W9 N C E F P Q), k, n)) (g := True ∧ True ∧ True ∧ True) (by with_unfolding_all rfl) ⟨trivial, trivial, trivial, trivial⟩ ?_
        replace h := Option.bind_eq_some_iff.mp h
        obtain ⟨⟨r13 | e13, N_13, E_13, F_13, ⟨k_13, n_13⟩⟩, hc13, h⟩ := h
        · dsimp only at h
          refine am_ev_call (.invokevirtual 62) 14 4 543 [.ref 13, .int r1, .int r2] [] rfl rfl rfl rfl (ih.2.2.2 hc13 D (by omega)) rfl ?_
          cases h
          exact am_ev_ret 0 0 0 rfl .int rfl rfl rfl
        · dsimp only at h
          cases h
          exact am_ev_callx (.invokevirtual 62) 14 4 543 [.ref 13, .int r1, .int r2] [] rfl rfl rfl rfl (ih.2.2.2 hc13 D (by omega)) rfl rfl rfl
      rw [if_neg c12] at h
      refine am_ev_swne c12 ?_
      by_cases c14 : r3 = (5 : Int32)
      · rw [if_pos c14] at h
        refine am_ev_sweq c14 ?_
        refine am_ev_st 3 (f' := (88, [(3, .int r2), (2, .int r1), (0, .ref 13), (1, .int p1)], [.int r1, .ref 7], (W9 N C E F P Q), k, n)) (g := True ∧ True ∧ True ∧ True) (by with_unfolding_all rfl) ⟨trivial, trivial, trivial, trivial⟩ ?_
        replace h := Option.bind_eq_some_iff.mp h
        obtain ⟨r15, hc15, h⟩ := h
        try dsimp only at h
        refine am_ev_call (.invokevirtual 50) 4 2 487 [.ref 7, .int r1] [] rfl rfl rfl rfl (ok_fC_typeAt hc15 D (by omega)) rfl ?_
        cases h
        exact am_ev_ret 0 0 0 rfl .int rfl rfl rfl
      rw [if_neg c14] at h
      refine am_ev_swne c14 ?_
      refine am_ev_sw0 ?_
      refine am_ev_st 1 (f' := (114, [(3, .int r2), (2, .int r1), (0, .ref 13), (1, .int p1)], [.int (-1 : Int32)], (W9 N C E F P Q), k, n)) (g := True ∧ True) (by with_unfolding_all rfl) ⟨trivial, trivial⟩ ?_
      cases h
      exact am_ev_ret 0 0 0 rfl .int rfl rfl rfl
    · intro N C E F P Q k n p1 p2 rv N' E' F' k' n' h D hD
      unfold fF_G at h
      try dsimp only at h
      obtain ⟨D, rfl⟩ : ∃ D', D = D' + 1 := ⟨D - 1, by omega⟩
      refine am_call_run (by decide) (by decide) rfl (Nat.le_of_ble_eq_true rfl) (by decide) (L := [(0, .ref 13), (1, .int p1), (2, .int p2)]) rfl ?_
      refine am_ev_st 3 (f' := (3, [(0, .ref 13), (1, .int p1), (2, .int p2)], [.int p1, .ref 13, .ref 13], (W9 N C E F P Q), k, n)) (g := True ∧ True ∧ True ∧ True) (by with_unfolding_all rfl) ⟨trivial, trivial, trivial, trivial⟩ ?_
      replace h := Option.bind_eq_some_iff.mp h
      obtain ⟨⟨r1 | e1, N_1, E_1, F_1, ⟨k_1, n_1⟩⟩, hc1, h⟩ := h
      · dsimp only at h
        refine am_ev_call (.invokevirtual 83) 9 2 492 [.ref 13, .int p1] [.ref 13] rfl rfl rfl rfl (ih.1 hc1 D (by omega)) rfl ?_
        replace h := Option.bind_eq_some_iff.mp h
        obtain ⟨⟨r2 | e2, N_2, E_2, ⟨k_2, n_2⟩⟩, hc2, h⟩ := h
        · dsimp only at h
          refine am_ev_call (.invokevirtual 86) 10 2 493 [.ref 13, .int r1] [] rfl rfl rfl rfl (ok_fF_levelOf hc2 D (by omega)) rfl ?_
          refine am_ev_st 3 (f' := (12, [(3, .int r2), (0, .ref 13), (1, .int p1), (2, .int p2)], [.int p1, .ref 13], (W9 N_2 C E_2 F_1 P Q), k_2, n_2)) (g := True ∧ True ∧ True ∧ True) (by with_unfolding_all rfl) ⟨trivial, trivial, trivial, trivial⟩ ?_
          replace h := Option.bind_eq_some_iff.mp h
          obtain ⟨⟨⟨⟩ | e3, F_3, ⟨k_3, n_3⟩⟩, hc3, h⟩ := h
          · dsimp only at h
            refine am_ev_call (.invokevirtual 89) 15 2 525 [.ref 13, .int p1] [] rfl rfl rfl rfl (ok_fF_open hc3 D (by omega)) rfl ?_
            refine am_ev_st 3 (f' := (18, [(3, .int r2), (0, .ref 13), (1, .int p1), (2, .int p2)], [.int p2, .ref 13, .ref 13], (W9 N_2 C E_2 F_3 P Q), k_3, n_3)) (g := True ∧ True ∧ True ∧ True) (by with_unfolding_all rfl) ⟨trivial, trivial, trivial, trivial⟩ ?_
            replace h := Option.bind_eq_some_iff.mp h
            obtain ⟨⟨r4 | e4, N_4, E_4, F_4, ⟨k_4, n_4⟩⟩, hc4, h⟩ := h
            · dsimp only at h
              refine am_ev_call (.invokevirtual 83) 9 2 492 [.ref 13, .int p2] [.ref 13] rfl rfl rfl rfl (ih.1 hc4 D (by omega)) rfl ?_
              replace h := Option.bind_eq_some_iff.mp h
              obtain ⟨⟨r5 | e5, N_5, E_5, ⟨k_5, n_5⟩⟩, hc5, h⟩ := h
              · dsimp only at h
                refine am_ev_call (.invokevirtual 86) 10 2 493 [.ref 13, .int r4] [] rfl rfl rfl rfl (ok_fF_levelOf hc5 D (by omega)) rfl ?_
                obtain ⟨tt_4, tc_4⟩ := F_4
                try dsimp only at h
                refine am_ev_st 14 (f' := (48, [(4, .int r5), (3, .int r2), (0, .ref 13), (1, .int p1), (2, .int p2)], [.int (-1 : Int32), .int (if r2 < r5 then r5 else r2), .int (1 : Int32), .ref 1], (W9 N_5 C E_5 (tt_4, (tc_4 - (1 : Int32))) P Q), k_5, n_5)) (g := True ∧ True ∧ True ∧ True ∧ True ∧ True ∧ True ∧ True ∧ True ∧ True ∧ True ∧ True ∧ True ∧ True ∧ True) (by with_unfolding_all rfl) ⟨trivial, trivial, trivial, trivial, trivial, trivial, trivial, trivial, trivial, trivial, trivial, trivial, trivial, trivial, trivial⟩ ?_
                replace h := Option.bind_eq_some_iff.mp h
                obtain ⟨⟨r6, N_6, ⟨k_6, n_6⟩⟩, hc6, h⟩ := h
                try dsimp only at h
                refine am_ev_call (.invokevirtual 46) 38 6 486 [.ref 1, .int (1 : Int32), .int (if r2 < r5 then r5 else r2), .int (-1 : Int32)] [] rfl rfl rfl rfl (ok_fN_add hc6 D (by omega)) rfl ?_
                cases h
                exact am_ev_ret 0 0 0 rfl .int rfl rfl rfl
              · dsimp only at h
                cases h
                exact am_ev_callx (.invokevirtual 86) 10 2 493 [.ref 13, .int r4] [] rfl rfl rfl rfl (ok_fF_levelOf hc5 D (by omega)) rfl rfl rfl
            · dsimp only at h
              cases h
              exact am_ev_callx (.invokevirtual 83) 9 2 492 [.ref 13, .int p2] [.ref 13] rfl rfl rfl rfl (ih.1 hc4 D (by omega)) rfl rfl rfl
          · dsimp only at h
            cases h
            exact am_ev_callx (.invokevirtual 89) 15 2 525 [.ref 13, .int p1] [] rfl rfl rfl rfl (ok_fF_open hc3 D (by omega)) rfl rfl rfl
        · dsimp only at h
          cases h
          exact am_ev_callx (.invokevirtual 86) 10 2 493 [.ref 13, .int r1] [] rfl rfl rfl rfl (ok_fF_levelOf hc2 D (by omega)) rfl rfl rfl
      · dsimp only at h
        cases h
        exact am_ev_callx (.invokevirtual 83) 9 2 492 [.ref 13, .int p1] [.ref 13] rfl rfl rfl rfl (ih.1 hc1 D (by omega)) rfl rfl rfl
    · intro N C E F P Q k n p1 p2 rv N' E' F' k' n' h D hD
      unfold fF_G at h
      try dsimp only at h
      obtain ⟨D, rfl⟩ : ∃ D', D = D' + 1 := ⟨D - 1, by omega⟩
      refine am_call_run (by decide) (by decide) rfl (Nat.le_of_ble_eq_true rfl) (by decide) (L := [(0, .ref 13), (1, .int p1), (2, .int p2)]) rfl ?_
      refine am_ev_st 3 (f' := (3, [(0, .ref 13), (1, .int p1), (2, .int p2)], [.int p1, .ref 13, .ref 13], (W9 N C E F P Q), k, n)) (g := True ∧ True ∧ True ∧ True) (by with_unfolding_all rfl) ⟨trivial, trivial, trivial, trivial⟩ ?_
      replace h := Option.bind_eq_some_iff.mp h
      obtain ⟨⟨r1 | e1, N_1, E_1, F_1, ⟨k_1, n_1⟩⟩, hc1, h⟩ := h
      · dsimp only at h
        refine am_ev_call (.invokevirtual 83) 9 2 492 [.ref 13, .int p1] [.ref 13] rfl rfl rfl rfl (ih.1 hc1 D (by omega)) rfl ?_
        replace h := Option.bind_eq_some_iff.mp h
        obtain ⟨⟨r2 | e2, N_2, E_2, ⟨k_2, n_2⟩⟩, hc2, h⟩ := h
        · dsimp only at h
          refine am_ev_call (.invokevirtual 86) 10 2 493 [.ref 13, .int r1] [] rfl rfl rfl rfl (ok_fF_levelOf hc2 D (by omega)) rfl ?_
          refine am_ev_st 3 (f' := (12, [(0, .ref 13), (1, .int p1), (2, .int p2)], [.int p1, .ref 13], (W9 N_2 C E_2 F_1 P Q), k_2, n_2)) (g := True ∧ True ∧ True ∧ True) (by with_unfolding_all rfl) ⟨trivial, trivial, trivial, trivial⟩ ?_
          replace h := Option.bind_eq_some_iff.mp h
          obtain ⟨⟨⟨⟩ | e3, F_3, ⟨k_3, n_3⟩⟩, hc3, h⟩ := h
          · dsimp only at h
            refine am_ev_call (.invokevirtual 89) 15 2 525 [.ref 13, .int p1] [] rfl rfl rfl rfl (ok_fF_open hc3 D (by omega)) rfl ?_
            refine am_ev_st 2 (f' := (17, [(0, .ref 13), (1, .int p1), (2, .int p2)], [.int p2, .ref 13], (W9 N_2 C E_2 F_3 P Q), k_3, n_3)) (g := True ∧ True ∧ True) (by with_unfolding_all rfl) ⟨trivial, trivial, trivial⟩ ?_
            replace h := Option.bind_eq_some_iff.mp h
            obtain ⟨⟨r4 | e4, N_4, E_4, F_4, ⟨k_4, n_4⟩⟩, hc4, h⟩ := h
            · dsimp only at h
              refine am_ev_call (.invokevirtual 83) 9 2 492 [.ref 13, .int p2] [] rfl rfl rfl rfl (ih.1 hc4 D (by omega)) rfl ?_
              obtain ⟨tt_4, tc_4⟩ := F_4
              try dsimp only at h
              refine am_ev_st 13 (f' := (39, [(3, .int r4), (0, .ref 13), (1, .int p1), (2, .int p2)], [.int r4, .int p1, .int (2 : Int32), .ref 1, .ref 13], (W9 N_4 C E_4 (tt_4, (tc_4 - (1 : Int32))) P Q), k_4, n_4)) (g := True ∧ True ∧ True ∧ True ∧ True ∧ True ∧ True ∧ True ∧ True ∧ True ∧ True ∧ True ∧ True ∧ True) (by with_unfolding_all rfl) ⟨trivial, trivial, trivial, trivial, trivial, trivial, trivial, trivial, trivial, trivial, trivial, trivial, trivial, trivial⟩ ?_
              replace h := Option.bind_eq_some_iff.mp h
              obtain ⟨⟨r5, N_5, ⟨k_5, n_5⟩⟩, hc5, h⟩ := h
              try dsimp only at h
              refine am_ev_call (.invokevirtual 46) 38 6 486 [.ref 1, .int (2 : Int32), .int p1, .int r4] [.ref 13] rfl rfl rfl rfl (ok_fN_add hc5 D (by omega)) rfl ?_
              replace h := Option.bind_eq_some_iff.mp h
              obtain ⟨⟨r6 | e6, ⟨k_6, n_6⟩⟩, hc6, h⟩ := h
              · dsimp only at h
                refine am_ev_call (.invokevirtual 98) 16 2 537 [.ref 13, .int r5] [] rfl rfl rfl rfl (ok_fF_notTooMuch hc6 D (by omega)) rfl ?_
                cases h
                exact am_ev_ret 0 0 0 rfl .int rfl rfl rfl
              · dsimp only at h
                cases h
                exact am_ev_callx (.invokevirtual 98) 16 2 537 [.ref 13, .int r5] [] rfl rfl rfl rfl (ok_fF_notTooMuch hc6 D (by omega)) rfl rfl rfl
            · dsimp only at h
              cases h
              exact am_ev_callx (.invokevirtual 83) 9 2 492 [.ref 13, .int p2] [] rfl rfl rfl rfl (ih.1 hc4 D (by omega)) rfl rfl rfl
          · dsimp only at h
            cases h
            exact am_ev_callx (.invokevirtual 89) 15 2 525 [.ref 13, .int p1] [] rfl rfl rfl rfl (ok_fF_open hc3 D (by omega)) rfl rfl rfl
        · dsimp only at h
          cases h
          exact am_ev_callx (.invokevirtual 86) 10 2 493 [.ref 13, .int r1] [] rfl rfl rfl rfl (ok_fF_levelOf hc2 D (by omega)) rfl rfl rfl
      · dsimp only at h
        cases h
        exact am_ev_callx (.invokevirtual 83) 9 2 492 [.ref 13, .int p1] [.ref 13] rfl rfl rfl rfl (ih.1 hc1 D (by omega)) rfl rfl rfl
    · intro N C E F P Q k n p1 p2 rv N' E' F' k' n' h D hD
      unfold fF_G at h
      try dsimp only at h
      obtain ⟨D, rfl⟩ : ∃ D', D = D' + 1 := ⟨D - 1, by omega⟩
      refine am_call_run (by decide) (by decide) rfl (Nat.le_of_ble_eq_true rfl) (by decide) (L := [(0, .ref 13), (1, .int p1), (2, .int p2)]) rfl ?_
      refine am_ev_st 4 (f' := (6, [(0, .ref 13), (1, .int p1), (2, .int p2)], [.int p1, .ref 13, .ref 10], (W9 N C E F P Q), k, n)) (g := True ∧ True ∧ True ∧ True ∧ True) (by with_unfolding_all rfl) ⟨trivial, trivial, trivial, trivial, trivial⟩ ?_
      replace h := Option.bind_eq_some_iff.mp h
      obtain ⟨⟨r1 | e1, N_1, E_1, F_1, ⟨k_1, n_1⟩⟩, hc1, h⟩ := h
      · dsimp only at h
        refine am_ev_call (.invokevirtual 83) 9 2 492 [.ref 13, .int p1] [.ref 10] rfl rfl rfl rfl (ih.1 hc1 D (by omega)) rfl ?_
        replace h := Option.bind_eq_some_iff.mp h
        obtain ⟨⟨r2 | e2, N_2, E_2, ⟨k_2, n_2⟩⟩, hc2, h⟩ := h
        · dsimp only at h
          refine am_ev_call (.invokevirtual 65) 48 2 497 [.ref 10, .int r1] [] rfl rfl rfl rfl (ok_fE_headForm hc2 D (by omega)) rfl ?_
          refine am_ev_st 4 (f' := (18, [(3, .int r2), (0, .ref 13), (1, .int p1), (2, .int p2)], [.int r2, .ref 1], (W9 N_2 C E_2 F_1 P Q), k_2, n_2)) (g := True ∧ True ∧ True ∧ True ∧ True) (by with_unfolding_all rfl) ⟨trivial, trivial, trivial, trivial, trivial⟩ ?_
          replace h := Option.bind_eq_some_iff.mp h
          obtain ⟨r3, hc3, h⟩ := h
          try dsimp only at h
          refine am_ev_call (.invokevirtual 40) 28 2 458 [.ref 1, .int r2] [] rfl rfl rfl rfl (ok_fN_kindOf hc3 D (by omega)) rfl ?_
          refine am_ev_st 2 (f' := am_br (r3 = (2 : Int32)) 35 22 [(3, .int r2), (0, .ref 13), (1, .int p1), (2, .int p2)] [] (W9 N_2 C E_2 F_1 P Q) k_2 n_2) (g := True ∧ True ∧ True) (by with_unfolding_all rfl) ⟨trivial, trivial, trivial⟩ ?_
          by_cases c4 : r3 = (2 : Int32)
          · rw [if_pos c4] at h
            refine am_ev_pos c4 ?_
            refine am_ev_st 4 (f' := (41, [(3, .int r2), (0, .ref 13), (1, .int p1), (2, .int p2)], [.int p2, .ref 13, .ref 10], (W9 N_2 C E_2 F_1 P Q), k_2, n_2)) (g := True ∧ True ∧ True ∧ True ∧ True) (by with_unfolding_all rfl) ⟨trivial, trivial, trivial, trivial, trivial⟩ ?_
            replace h := Option.bind_eq_some_iff.mp h
            obtain ⟨⟨r5 | e5, N_5, E_5, F_5, ⟨k_5, n_5⟩⟩, hc5, h⟩ := h
            · dsimp only at h
              refine am_ev_call (.invokevirtual 83) 9 2 492 [.ref 13, .int p2] [.ref 10] rfl rfl rfl rfl (ih.1 hc5 D (by omega)) rfl ?_
              refine am_ev_st 3 (f' := (49, [(3, .int r2), (0, .ref 13), (1, .int p1), (2, .int p2)], [.int r2, .ref 1, .int r5, .ref 10], (W9 N_5 C E_5 F_5 P Q), k_5, n_5)) (g := True ∧ True ∧ True ∧ True) (by with_unfolding_all rfl) ⟨trivial, trivial, trivial, trivial⟩ ?_
              replace h := Option.bind_eq_some_iff.mp h
              obtain ⟨r6, hc6, h⟩ := h
              try dsimp only at h
              refine am_ev_call (.invokevirtual 31) 29 2 456 [.ref 1, .int r2] [.int r5, .ref 10] rfl rfl rfl rfl (ok_fN_leftOf hc6 D (by omega)) rfl ?_
              replace h := Option.bind_eq_some_iff.mp h
              obtain ⟨⟨r7 | e7, N_7, E_7, ⟨k_7, n_7⟩⟩, hc7, h⟩ := h
              · dsimp only at h
                refine am_ev_call (.invokevirtual 103) 50 4 548 [.ref 10, .int r5, .int r6] [] rfl rfl rfl rfl (ok_fE_areSame hc7 D (by omega)) rfl ?_
                refine am_ev_st 1 (f' := am_br ((am_bz r7) ≠ 0) 68 55 [(3, .int r2), (0, .ref 13), (1, .int p1), (2, .int p2)] [] (W9 N_7 C E_7 F_5 P Q) k_7 n_7) (g := True ∧ True) (by with_unfolding_all rfl) ⟨trivial, trivial⟩ ?_
                by_cases c8 : (am_bz r7) ≠ 0
                · rw [if_pos c8] at h
                  refine am_ev_pos c8 ?_
                  refine am_ev_st 6 (f' := (78, [(3, .int r2), (0, .ref 13), (1, .int p1), (2, .int p2)], [.int r2, .ref 1, .ref 1, .ref 13], (W9 N_7 C E_7 F_5 P Q), k_7, n_7)) (g := True ∧ True ∧ True ∧ True ∧ True ∧ True ∧ True) (by with_unfolding_all rfl) ⟨trivial, trivial, trivial, trivial, trivial, trivial, trivial⟩ ?_
                  replace h := Option.bind_eq_some_iff.mp h
                  obtain ⟨r9, hc9, h⟩ := h
                  try dsimp only at h
                  refine am_ev_call (.invokevirtual 37) 30 2 457 [.ref 1, .int r2] [.ref 1, .ref 13] rfl rfl rfl rfl (ok_fN_rightOf hc9 D (by omega)) rfl ?_
                  refine am_ev_st 3 (f' := (84, [(3, .int r2), (0, .ref 13), (1, .int p1), (2, .int p2)], [.int (-1 : Int32), .int p2, .int (0 : Int32), .int r9, .ref 1, .ref 13], (W9 N_7 C E_7 F_5 P Q), k_7, n_7)) (g := True ∧ True ∧ True ∧ True) (by with_unfolding_all rfl) ⟨trivial, trivial, trivial, trivial⟩ ?_
                  replace h := Option.bind_eq_some_iff.mp h
                  obtain ⟨⟨r10, N_10, ⟨k_10, n_10⟩⟩, hc10, h⟩ := h
                  try dsimp only at h
                  refine am_ev_call (.invokevirtual 79) 43 8 479 [.ref 1, .int r9, .int (0 : Int32), .int p2, .int (-1 : Int32)] [.ref 13] rfl rfl rfl rfl (ok_fN_changed hc10 D (by omega)) rfl ?_
                  replace h := Option.bind_eq_some_iff.mp h
                  obtain ⟨⟨r11 | e11, ⟨k_11, n_11⟩⟩, hc11, h⟩ := h
                  · dsimp only at h
                    refine am_ev_call (.invokevirtual 98) 16 2 537 [.ref 13, .int r10] [] rfl rfl rfl rfl (ok_fF_notTooMuch hc11 D (by omega)) rfl ?_
                    cases h
                    exact am_ev_ret 0 0 0 rfl .int rfl rfl rfl
                  · dsimp only at h
                    cases h
                    exact am_ev_callx (.invokevirtual 98) 16 2 537 [.ref 13, .int r10] [] rfl rfl rfl rfl (ok_fF_notTooMuch hc11 D (by omega)) rfl rfl rfl
                · rw [if_neg c8] at h
                  refine am_ev_neg c8 ?_
                  cases h
                  exact am_ev_throw (.new 70) 3 1 463 rfl _ rfl rfl rfl rfl rfl rfl rfl
              · dsimp only at h
                cases h
                exact am_ev_callx (.invokevirtual 103) 50 4 548 [.ref 10, .int r5, .int r6] [] rfl rfl rfl rfl (ok_fE_areSame hc7 D (by omega)) rfl rfl rfl
            · dsimp only at h
              cases h
              exact am_ev_callx (.invokevirtual 83) 9 2 492 [.ref 13, .int p2] [.ref 10] rfl rfl rfl rfl (ih.1 hc5 D (by omega)) rfl rfl rfl
          · rw [if_neg c4] at h
            refine am_ev_neg c4 ?_
            cases h
            exact am_ev_throw (.new 70) 2 1 463 rfl _ rfl rfl rfl rfl rfl rfl rfl
        · dsimp only at h
          cases h
          exact am_ev_callx (.invokevirtual 65) 48 2 497 [.ref 10, .int r1] [] rfl rfl rfl rfl (ok_fE_headForm hc2 D (by omega)) rfl rfl rfl
      · dsimp only at h
        cases h
        exact am_ev_callx (.invokevirtual 83) 9 2 492 [.ref 13, .int p1] [.ref 10] rfl rfl rfl rfl (ih.1 hc1 D (by omega)) rfl rfl rfl
def fF_typeFound (fl : Nat) (d : Nat) (N : cN) (C : cC) (E : cE) (F : cF) (k n : Nat) (p1 : Int32) : Option (((Int32) ⊕ Nat) × cN × cE × cF × (Nat × Nat)) := fF_G fl d 0 N C E F k n p1 0
theorem ok_fF_typeFound {fl d : Nat} {N : cN} {C : cC} {E : cE} {F : cF} {P : cP} {Q : cQ} {k n : Nat} {p1 : Int32} {rv : (Int32) ⊕ Nat} {N' : cN} {E' : cE} {F' : cF} {k' n' : Nat} (h : fF_typeFound fl d N C E F k n p1 = some (rv, N', E', F', (k', n'))) (D : Nat) (hD : d + 5 ≤ D) : am_Call D 9 [.ref 13, .int p1] (W9 N C E F P Q) k n (am_oI rv, W9 N' C E' F' P Q, k', n') := (ok_fF_G (d := d)).1 h D hD
def fF_typeOfPi (fl : Nat) (d : Nat) (N : cN) (C : cC) (E : cE) (F : cF) (k n : Nat) (p1 p2 : Int32) : Option (((Int32) ⊕ Nat) × cN × cE × cF × (Nat × Nat)) := fF_G fl d 1 N C E F k n p1 p2
theorem ok_fF_typeOfPi {fl d : Nat} {N : cN} {C : cC} {E : cE} {F : cF} {P : cP} {Q : cQ} {k n : Nat} {p1 p2 : Int32} {rv : (Int32) ⊕ Nat} {N' : cN} {E' : cE} {F' : cF} {k' n' : Nat} (h : fF_typeOfPi fl d N C E F k n p1 p2 = some (rv, N', E', F', (k', n'))) (D : Nat) (hD : d + 5 ≤ D) : am_Call D 12 [.ref 13, .int p1, .int p2] (W9 N C E F P Q) k n (am_oI rv, W9 N' C E' F' P Q, k', n') := (ok_fF_G (d := d)).2.1 h D hD
def fF_typeOfFunction (fl : Nat) (d : Nat) (N : cN) (C : cC) (E : cE) (F : cF) (k n : Nat) (p1 p2 : Int32) : Option (((Int32) ⊕ Nat) × cN × cE × cF × (Nat × Nat)) := fF_G fl d 2 N C E F k n p1 p2
theorem ok_fF_typeOfFunction {fl d : Nat} {N : cN} {C : cC} {E : cE} {F : cF} {P : cP} {Q : cQ} {k n : Nat} {p1 p2 : Int32} {rv : (Int32) ⊕ Nat} {N' : cN} {E' : cE} {F' : cF} {k' n' : Nat} (h : fF_typeOfFunction fl d N C E F k n p1 p2 = some (rv, N', E', F', (k', n'))) (D : Nat) (hD : d + 5 ≤ D) : am_Call D 13 [.ref 13, .int p1, .int p2] (W9 N C E F P Q) k n (am_oI rv, W9 N' C E' F' P Q, k', n') := (ok_fF_G (d := d)).2.2.1 h D hD
def fF_typeOfApplication (fl : Nat) (d : Nat) (N : cN) (C : cC) (E : cE) (F : cF) (k n : Nat) (p1 p2 : Int32) : Option (((Int32) ⊕ Nat) × cN × cE × cF × (Nat × Nat)) := fF_G fl d 3 N C E F k n p1 p2
theorem ok_fF_typeOfApplication {fl d : Nat} {N : cN} {C : cC} {E : cE} {F : cF} {P : cP} {Q : cQ} {k n : Nat} {p1 p2 : Int32} {rv : (Int32) ⊕ Nat} {N' : cN} {E' : cE} {F' : cF} {k' n' : Nat} (h : fF_typeOfApplication fl d N C E F k n p1 p2 = some (rv, N', E', F', (k', n'))) (D : Nat) (hD : d + 5 ≤ D) : am_Call D 14 [.ref 13, .int p1, .int p2] (W9 N C E F P Q) k n (am_oI rv, W9 N' C E' F' P Q, k', n') := (ok_fF_G (d := d)).2.2.2 h D hD
