def fN_termCount (N : cN) : Option (Int32) :=
  match N with
  | (nK, nL, nR, nS, nD, cap, mt, le, en) =>
  some mt
set_option maxHeartbeats 4000000 in
set_option maxRecDepth 100000 in
theorem ok_fN_termCount  {N : cN} {C : cC} {E : cE} {F : cF} {P : cP} {Q : cQ} {k n : Nat} {rv : Int32} (h : fN_termCount N = some rv) (D : Nat) (hD : 1 ≤ D) : am_Call D 26 [.ref 1] (W9 N C E F P Q) k n (.inl (some (.int rv)), W9 N C E F P Q, k, n) := by
  unfold fN_termCount at h
  obtain ⟨D, rfl⟩ : ∃ D', D = D' + 1 := ⟨D - 1, by omega⟩
  have hD : 0 ≤ D := by omega
  refine am_call_run (by decide) (by decide) rfl (Nat.le_of_ble_eq_true rfl) (by decide) (L := [(0, .ref 1)]) rfl ?_
  obtain ⟨nK, nL, nR, nS, nD, cap, mt, le, en⟩ := N
  try dsimp only at h
  refine am_ev_st 2 (f' := (4, [(0, .ref 1)], [.int mt], (W9 (nK, nL, nR, nS, nD, cap, mt, le, en) C E F P Q), k, n)) (g := True ∧ True ∧ True) (by with_unfolding_all rfl) ⟨trivial, trivial, trivial⟩ ?_
  cases h
  exact am_ev_ret 0 0 0 rfl .int rfl rfl rfl
def fJ_terms (N : cN) : Option (Int32) :=
  (fN_termCount N).bind fun z1 =>
  match z1 with
  | (r1) =>
  some r1
set_option maxHeartbeats 4000000 in
set_option maxRecDepth 100000 in
theorem ok_fJ_terms  {N : cN} {C : cC} {E : cE} {F : cF} {P : cP} {Q : cQ} {k n : Nat} {rv : Int32} (h : fJ_terms N = some rv) (D : Nat) (hD : 2 ≤ D) : am_Call D 57 [.ref 0] (W9 N C E F P Q) k n (.inl (some (.int rv)), W9 N C E F P Q, k, n) := by
  unfold fJ_terms at h
  obtain ⟨D, rfl⟩ : ∃ D', D = D' + 1 := ⟨D - 1, by omega⟩
  have hD : 1 ≤ D := by omega
  refine am_call_run (by decide) (by decide) rfl (Nat.le_of_ble_eq_true rfl) (by decide) (L := [(0, .ref 0)]) rfl ?_
  refine am_ev_st 2 (f' := (4, [(0, .ref 0)], [.ref 1], (W9 N C E F P Q), k, n)) (g := True ∧ True ∧ True) (by with_unfolding_all rfl) ⟨trivial, trivial, trivial⟩ ?_
  replace h := Option.bind_eq_some_iff.mp h
  obtain ⟨r1, hc1, h⟩ := h
  try dsimp only at h
  refine am_ev_call (.invokevirtual 63) 26 0 223 [.ref 1] [] rfl rfl rfl rfl (ok_fN_termCount hc1 D (by omega)) rfl ?_
  cases h
  exact am_ev_ret 0 0 0 rfl .int rfl rfl rfl
def fC_count (C : cC) : Option (Int32) :=
  match C with
  | (ct, cb, cm) =>
  some cm
set_option maxHeartbeats 4000000 in
set_option maxRecDepth 100000 in
theorem ok_fC_count  {N : cN} {C : cC} {E : cE} {F : cF} {P : cP} {Q : cQ} {k n : Nat} {rv : Int32} (h : fC_count C = some rv) (D : Nat) (hD : 1 ≤ D) : am_Call D 1 [.ref 7] (W9 N C E F P Q) k n (.inl (some (.int rv)), W9 N C E F P Q, k, n) := by
  unfold fC_count at h
  obtain ⟨D, rfl⟩ : ∃ D', D = D' + 1 := ⟨D - 1, by omega⟩
  have hD : 0 ≤ D := by omega
  refine am_call_run (by decide) (by decide) rfl (Nat.le_of_ble_eq_true rfl) (by decide) (L := [(0, .ref 7)]) rfl ?_
  obtain ⟨ct, cb, cm⟩ := C
  try dsimp only at h
  refine am_ev_st 2 (f' := (4, [(0, .ref 7)], [.int cm], (W9 N (ct, cb, cm) E F P Q), k, n)) (g := True ∧ True ∧ True) (by with_unfolding_all rfl) ⟨trivial, trivial, trivial⟩ ?_
  cases h
  exact am_ev_ret 0 0 0 rfl .int rfl rfl rfl
def fJ_constants (C : cC) : Option (Int32) :=
  (fC_count C).bind fun z1 =>
  match z1 with
  | (r1) =>
  some r1
set_option maxHeartbeats 4000000 in
set_option maxRecDepth 100000 in
theorem ok_fJ_constants  {N : cN} {C : cC} {E : cE} {F : cF} {P : cP} {Q : cQ} {k n : Nat} {rv : Int32} (h : fJ_constants C = some rv) (D : Nat) (hD : 2 ≤ D) : am_Call D 64 [.ref 0] (W9 N C E F P Q) k n (.inl (some (.int rv)), W9 N C E F P Q, k, n) := by
  unfold fJ_constants at h
  obtain ⟨D, rfl⟩ : ∃ D', D = D' + 1 := ⟨D - 1, by omega⟩
  have hD : 1 ≤ D := by omega
  refine am_call_run (by decide) (by decide) rfl (Nat.le_of_ble_eq_true rfl) (by decide) (L := [(0, .ref 0)]) rfl ?_
  refine am_ev_st 2 (f' := (4, [(0, .ref 0)], [.ref 7], (W9 N C E F P Q), k, n)) (g := True ∧ True ∧ True) (by with_unfolding_all rfl) ⟨trivial, trivial, trivial⟩ ?_
  replace h := Option.bind_eq_some_iff.mp h
  obtain ⟨r1, hc1, h⟩ := h
  try dsimp only at h
  refine am_ev_call (.invokevirtual 125) 1 0 231 [.ref 7] [] rfl rfl rfl rfl (ok_fC_count hc1 D (by omega)) rfl ?_
  cases h
  exact am_ev_ret 0 0 0 rfl .int rfl rfl rfl
def fC_bodyAt (C : cC) (p1 : Int32) : Option (Int32) :=
  (fC_isThere C p1).bind fun z1 =>
  match z1 with
  | (r1) =>
  if (am_bz r1) = 0 then
  (some (-1 : Int32))
  else
  match C with
  | (ct, cb, cm) =>
  if (p1 < 0 ∨ 16 ≤ (p1).toNatClampNeg) then none else
  some (cb (p1).toNatClampNeg)
set_option maxHeartbeats 4000000 in
set_option maxRecDepth 100000 in
theorem ok_fC_bodyAt  {N : cN} {C : cC} {E : cE} {F : cF} {P : cP} {Q : cQ} {k n : Nat} {p1 : Int32} {rv : Int32} (h : fC_bodyAt C p1 = some rv) (D : Nat) (hD : 2 ≤ D) : am_Call D 5 [.ref 7, .int p1] (W9 N C E F P Q) k n (.inl (some (.int rv)), W9 N C E F P Q, k, n) := by
  unfold fC_bodyAt at h
  obtain ⟨D, rfl⟩ : ∃ D', D = D' + 1 := ⟨D - 1, by omega⟩
  have hD : 1 ≤ D := by omega
  refine am_call_run (by decide) (by decide) rfl (Nat.le_of_ble_eq_true rfl) (by decide) (L := [(0, .ref 7), (1, .int p1)]) rfl ?_
  refine am_ev_st 2 (f' := (2, [(0, .ref 7), (1, .int p1)], [.int p1, .ref 7], (W9 N C E F P Q), k, n)) (g := True ∧ True ∧ True) (by with_unfolding_all rfl) ⟨trivial, trivial, trivial⟩ ?_
  replace h := Option.bind_eq_some_iff.mp h
  obtain ⟨r1, hc1, h⟩ := h
  try dsimp only at h
  refine am_ev_call (.invokevirtual 22) 3 2 243 [.ref 7, .int p1] [] rfl rfl rfl rfl (ok_fC_isThere hc1 D (by omega)) rfl ?_
  refine am_ev_st 1 (f' := am_br ((am_bz r1) = 0) 17 5 [(0, .ref 7), (1, .int p1)] [] (W9 N C E F P Q) k n) (g := True ∧ True) (by with_unfolding_all rfl) ⟨trivial, trivial⟩ ?_
  by_cases c2 : (am_bz r1) = 0
  · rw [if_pos c2] at h
    refine am_ev_pos c2 ?_
    refine am_ev_st 1 (f' := (18, [(0, .ref 7), (1, .int p1)], [.int (-1 : Int32)], (W9 N C E F P Q), k, n)) (g := True ∧ True) (by with_unfolding_all rfl) ⟨trivial, trivial⟩ ?_
    cases h
    exact am_ev_ret 0 0 0 rfl .int rfl rfl rfl
  · rw [if_neg c2] at h
    refine am_ev_neg c2 ?_
    obtain ⟨ct, cb, cm⟩ := C
    try dsimp only at h
    by_cases g3 : (p1 < 0 ∨ 16 ≤ (p1).toNatClampNeg)
    · rw [if_pos g3] at h; cases h
    rw [if_neg g3] at h
    refine am_ev_st 5 (f' := (18, [(0, .ref 7), (1, .int p1)], [.int (cb (p1).toNatClampNeg)], (W9 N (ct, cb, cm) E F P Q), k, n)) (g := True ∧ True ∧ True ∧ vp_in (p1) 16 ∧ True ∧ True) (by with_unfolding_all rfl) ⟨trivial, trivial, trivial, g3, trivial, trivial⟩ ?_
    cases h
    exact am_ev_ret 0 0 0 rfl .int rfl rfl rfl
def fJ_hasBody (C : cC) (p1 : Int32) : Option (Bool) :=
  (fC_bodyAt C p1).bind fun z1 =>
  match z1 with
  | (r1) =>
  if r1 = (-1 : Int32) then
  (some false)
  else
  some true
set_option maxHeartbeats 4000000 in
set_option maxRecDepth 100000 in
theorem ok_fJ_hasBody  {N : cN} {C : cC} {E : cE} {F : cF} {P : cP} {Q : cQ} {k n : Nat} {p1 : Int32} {rv : Bool} (h : fJ_hasBody C p1 = some rv) (D : Nat) (hD : 3 ≤ D) : am_Call D 65 [.ref 0, .int p1] (W9 N C E F P Q) k n (.inl (some (.int (am_bz rv))), W9 N C E F P Q, k, n) := by
  unfold fJ_hasBody at h
  obtain ⟨D, rfl⟩ : ∃ D', D = D' + 1 := ⟨D - 1, by omega⟩
  have hD : 2 ≤ D := by omega
  refine am_call_run (by decide) (by decide) rfl (Nat.le_of_ble_eq_true rfl) (by decide) (L := [(0, .ref 0), (1, .int p1)]) rfl ?_
  refine am_ev_st 3 (f' := (5, [(0, .ref 0), (1, .int p1)], [.int p1, .ref 7], (W9 N C E F P Q), k, n)) (g := True ∧ True ∧ True ∧ True) (by with_unfolding_all rfl) ⟨trivial, trivial, trivial, trivial⟩ ?_
  replace h := Option.bind_eq_some_iff.mp h
  obtain ⟨r1, hc1, h⟩ := h
  try dsimp only at h
  refine am_ev_call (.invokevirtual 128) 5 2 239 [.ref 7, .int p1] [] rfl rfl rfl rfl (ok_fC_bodyAt hc1 D (by omega)) rfl ?_
  refine am_ev_st 2 (f' := am_br (r1 = (-1 : Int32)) 16 9 [(0, .ref 0), (1, .int p1)] [] (W9 N C E F P Q) k n) (g := True ∧ True ∧ True) (by with_unfolding_all rfl) ⟨trivial, trivial, trivial⟩ ?_
  by_cases c2 : r1 = (-1 : Int32)
  · rw [if_pos c2] at h
    refine am_ev_pos c2 ?_
    refine am_ev_st 1 (f' := (17, [(0, .ref 0), (1, .int p1)], [.int (0 : Int32)], (W9 N C E F P Q), k, n)) (g := True ∧ True) (by with_unfolding_all rfl) ⟨trivial, trivial⟩ ?_
    cases h
    exact am_ev_ret 0 0 0 rfl .boolean rfl am_n0 rfl
  · rw [if_neg c2] at h
    refine am_ev_neg c2 ?_
    refine am_ev_st 2 (f' := (17, [(0, .ref 0), (1, .int p1)], [.int (1 : Int32)], (W9 N C E F P Q), k, n)) (g := True ∧ True ∧ True) (by with_unfolding_all rfl) ⟨trivial, trivial, trivial⟩ ?_
    cases h
    exact am_ev_ret 0 0 0 rfl .boolean rfl am_n1 rfl
def fN_kindOf (N : cN) (p1 : Int32) : Option (Int32) :=
  if p1 < 0 then
  (some (-1 : Int32))
  else
  match N with
  | (nK, nL, nR, nS, nD, cap, mt, le, en) =>
  if (Int32.ofNat cap) ≤ p1 then
  (some (-1 : Int32))
  else
  if (p1 < 0 ∨ cap ≤ (p1).toNatClampNeg) then none else
  some (nK (p1).toNatClampNeg)
set_option maxHeartbeats 4000000 in
set_option maxRecDepth 100000 in
theorem ok_fN_kindOf  {N : cN} {C : cC} {E : cE} {F : cF} {P : cP} {Q : cQ} {k n : Nat} {p1 : Int32} {rv : Int32} (h : fN_kindOf N p1 = some rv) (D : Nat) (hD : 1 ≤ D) : am_Call D 28 [.ref 1, .int p1] (W9 N C E F P Q) k n (.inl (some (.int rv)), W9 N C E F P Q, k, n) := by
  unfold fN_kindOf at h
  obtain ⟨D, rfl⟩ : ∃ D', D = D' + 1 := ⟨D - 1, by omega⟩
  have hD : 0 ≤ D := by omega
  refine am_call_run (by decide) (by decide) rfl (Nat.le_of_ble_eq_true rfl) (by decide) (L := [(0, .ref 1), (1, .int p1)]) rfl ?_
  refine am_ev_st 2 (f' := am_br (p1 < 0) 22 1 [(0, .ref 1), (1, .int p1)] [] (W9 N C E F P Q) k n) (g := True ∧ True ∧ True) (by with_unfolding_all rfl) ⟨trivial, trivial, trivial⟩ ?_
  by_cases c1 : p1 < 0
  · rw [if_pos c1] at h
    refine am_ev_pos c1 ?_
    refine am_ev_st 1 (f' := (23, [(0, .ref 1), (1, .int p1)], [.int (-1 : Int32)], (W9 N C E F P Q), k, n)) (g := True ∧ True) (by with_unfolding_all rfl) ⟨trivial, trivial⟩ ?_
    cases h
    exact am_ev_ret 0 0 0 rfl .int rfl rfl rfl
  · rw [if_neg c1] at h
    refine am_ev_neg c1 ?_
    obtain ⟨nK, nL, nR, nS, nD, cap, mt, le, en⟩ := N
    try dsimp only at h
    refine am_ev_st 5 (f' := am_br ((Int32.ofNat cap) ≤ p1) 22 10 [(0, .ref 1), (1, .int p1)] [] (W9 (nK, nL, nR, nS, nD, cap, mt, le, en) C E F P Q) k n) (g := True ∧ True ∧ True ∧ True ∧ True ∧ True) (by with_unfolding_all rfl) ⟨trivial, trivial, trivial, trivial, trivial, trivial⟩ ?_
    by_cases c2 : (Int32.ofNat cap) ≤ p1
    · rw [if_pos c2] at h
      refine am_ev_pos c2 ?_
      refine am_ev_st 1 (f' := (23, [(0, .ref 1), (1, .int p1)], [.int (-1 : Int32)], (W9 (nK, nL, nR, nS, nD, cap, mt, le, en) C E F P Q), k, n)) (g := True ∧ True) (by with_unfolding_all rfl) ⟨trivial, trivial⟩ ?_
      cases h
      exact am_ev_ret 0 0 0 rfl .int rfl rfl rfl
    · rw [if_neg c2] at h
      refine am_ev_neg c2 ?_
      by_cases g3 : (p1 < 0 ∨ cap ≤ (p1).toNatClampNeg)
      · rw [if_pos g3] at h; cases h
      rw [if_neg g3] at h
      refine am_ev_st 5 (f' := (23, [(0, .ref 1), (1, .int p1)], [.int (nK (p1).toNatClampNeg)], (W9 (nK, nL, nR, nS, nD, cap, mt, le, en) C E F P Q), k, n)) (g := True ∧ True ∧ True ∧ vp_in (p1) cap ∧ True ∧ True) (by with_unfolding_all rfl) ⟨trivial, trivial, trivial, g3, trivial, trivial⟩ ?_
      cases h
      exact am_ev_ret 0 0 0 rfl .int rfl rfl rfl
def fN_leftOf (N : cN) (p1 : Int32) : Option (Int32) :=
  if p1 < 0 then
  (some (-1 : Int32))
  else
  match N with
  | (nK, nL, nR, nS, nD, cap, mt, le, en) =>
  if (Int32.ofNat cap) ≤ p1 then
  (some (-1 : Int32))
  else
  if (p1 < 0 ∨ cap ≤ (p1).toNatClampNeg) then none else
  some (nL (p1).toNatClampNeg)
set_option maxHeartbeats 4000000 in
set_option maxRecDepth 100000 in
theorem ok_fN_leftOf  {N : cN} {C : cC} {E : cE} {F : cF} {P : cP} {Q : cQ} {k n : Nat} {p1 : Int32} {rv : Int32} (h : fN_leftOf N p1 = some rv) (D : Nat) (hD : 1 ≤ D) : am_Call D 29 [.ref 1, .int p1] (W9 N C E F P Q) k n (.inl (some (.int rv)), W9 N C E F P Q, k, n) := by
  unfold fN_leftOf at h
  obtain ⟨D, rfl⟩ : ∃ D', D = D' + 1 := ⟨D - 1, by omega⟩
  have hD : 0 ≤ D := by omega
  refine am_call_run (by decide) (by decide) rfl (Nat.le_of_ble_eq_true rfl) (by decide) (L := [(0, .ref 1), (1, .int p1)]) rfl ?_
  refine am_ev_st 2 (f' := am_br (p1 < 0) 22 1 [(0, .ref 1), (1, .int p1)] [] (W9 N C E F P Q) k n) (g := True ∧ True ∧ True) (by with_unfolding_all rfl) ⟨trivial, trivial, trivial⟩ ?_
  by_cases c1 : p1 < 0
  · rw [if_pos c1] at h
    refine am_ev_pos c1 ?_
    refine am_ev_st 1 (f' := (23, [(0, .ref 1), (1, .int p1)], [.int (-1 : Int32)], (W9 N C E F P Q), k, n)) (g := True ∧ True) (by with_unfolding_all rfl) ⟨trivial, trivial⟩ ?_
    cases h
    exact am_ev_ret 0 0 0 rfl .int rfl rfl rfl
  · rw [if_neg c1] at h
    refine am_ev_neg c1 ?_
    obtain ⟨nK, nL, nR, nS, nD, cap, mt, le, en⟩ := N
    try dsimp only at h
    refine am_ev_st 5 (f' := am_br ((Int32.ofNat cap) ≤ p1) 22 10 [(0, .ref 1), (1, .int p1)] [] (W9 (nK, nL, nR, nS, nD, cap, mt, le, en) C E F P Q) k n) (g := True ∧ True ∧ True ∧ True ∧ True ∧ True) (by with_unfolding_all rfl) ⟨trivial, trivial, trivial, trivial, trivial, trivial⟩ ?_
    by_cases c2 : (Int32.ofNat cap) ≤ p1
    · rw [if_pos c2] at h
      refine am_ev_pos c2 ?_
      refine am_ev_st 1 (f' := (23, [(0, .ref 1), (1, .int p1)], [.int (-1 : Int32)], (W9 (nK, nL, nR, nS, nD, cap, mt, le, en) C E F P Q), k, n)) (g := True ∧ True) (by with_unfolding_all rfl) ⟨trivial, trivial⟩ ?_
      cases h
      exact am_ev_ret 0 0 0 rfl .int rfl rfl rfl
    · rw [if_neg c2] at h
      refine am_ev_neg c2 ?_
      by_cases g3 : (p1 < 0 ∨ cap ≤ (p1).toNatClampNeg)
      · rw [if_pos g3] at h; cases h
      rw [if_neg g3] at h
      refine am_ev_st 5 (f' := (23, [(0, .ref 1), (1, .int p1)], [.int (nL (p1).toNatClampNeg)], (W9 (nK, nL, nR, nS, nD, cap, mt, le, en) C E F P Q), k, n)) (g := True ∧ True ∧ True ∧ vp_in (p1) cap ∧ True ∧ True) (by with_unfolding_all rfl) ⟨trivial, trivial, trivial, g3, trivial, trivial⟩ ?_
      cases h
      exact am_ev_ret 0 0 0 rfl .int rfl rfl rfl
def fN_rightOf (N : cN) (p1 : Int32) : Option (Int32) :=
  if p1 < 0 then
  (some (-1 : Int32))
  else
  match N with
  | (nK, nL, nR, nS, nD, cap, mt, le, en) =>
  if (Int32.ofNat cap) ≤ p1 then
  (some (-1 : Int32))
  else
  if (p1 < 0 ∨ cap ≤ (p1).toNatClampNeg) then none else
  some (nR (p1).toNatClampNeg)
set_option maxHeartbeats 4000000 in
set_option maxRecDepth 100000 in
theorem ok_fN_rightOf  {N : cN} {C : cC} {E : cE} {F : cF} {P : cP} {Q : cQ} {k n : Nat} {p1 : Int32} {rv : Int32} (h : fN_rightOf N p1 = some rv) (D : Nat) (hD : 1 ≤ D) : am_Call D 30 [.ref 1, .int p1] (W9 N C E F P Q) k n (.inl (some (.int rv)), W9 N C E F P Q, k, n) := by
  unfold fN_rightOf at h
  obtain ⟨D, rfl⟩ : ∃ D', D = D' + 1 := ⟨D - 1, by omega⟩
  have hD : 0 ≤ D := by omega
  refine am_call_run (by decide) (by decide) rfl (Nat.le_of_ble_eq_true rfl) (by decide) (L := [(0, .ref 1), (1, .int p1)]) rfl ?_
  refine am_ev_st 2 (f' := am_br (p1 < 0) 22 1 [(0, .ref 1), (1, .int p1)] [] (W9 N C E F P Q) k n) (g := True ∧ True ∧ True) (by with_unfolding_all rfl) ⟨trivial, trivial, trivial⟩ ?_
  by_cases c1 : p1 < 0
  · rw [if_pos c1] at h
    refine am_ev_pos c1 ?_
    refine am_ev_st 1 (f' := (23, [(0, .ref 1), (1, .int p1)], [.int (-1 : Int32)], (W9 N C E F P Q), k, n)) (g := True ∧ True) (by with_unfolding_all rfl) ⟨trivial, trivial⟩ ?_
    cases h
    exact am_ev_ret 0 0 0 rfl .int rfl rfl rfl
  · rw [if_neg c1] at h
    refine am_ev_neg c1 ?_
    obtain ⟨nK, nL, nR, nS, nD, cap, mt, le, en⟩ := N
    try dsimp only at h
    refine am_ev_st 5 (f' := am_br ((Int32.ofNat cap) ≤ p1) 22 10 [(0, .ref 1), (1, .int p1)] [] (W9 (nK, nL, nR, nS, nD, cap, mt, le, en) C E F P Q) k n) (g := True ∧ True ∧ True ∧ True ∧ True ∧ True) (by with_unfolding_all rfl) ⟨trivial, trivial, trivial, trivial, trivial, trivial⟩ ?_
    by_cases c2 : (Int32.ofNat cap) ≤ p1
    · rw [if_pos c2] at h
      refine am_ev_pos c2 ?_
      refine am_ev_st 1 (f' := (23, [(0, .ref 1), (1, .int p1)], [.int (-1 : Int32)], (W9 (nK, nL, nR, nS, nD, cap, mt, le, en) C E F P Q), k, n)) (g := True ∧ True) (by with_unfolding_all rfl) ⟨trivial, trivial⟩ ?_
      cases h
      exact am_ev_ret 0 0 0 rfl .int rfl rfl rfl
    · rw [if_neg c2] at h
      refine am_ev_neg c2 ?_
      by_cases g3 : (p1 < 0 ∨ cap ≤ (p1).toNatClampNeg)
      · rw [if_pos g3] at h; cases h
      rw [if_neg g3] at h
      refine am_ev_st 5 (f' := (23, [(0, .ref 1), (1, .int p1)], [.int (nR (p1).toNatClampNeg)], (W9 (nK, nL, nR, nS, nD, cap, mt, le, en) C E F P Q), k, n)) (g := True ∧ True ∧ True ∧ vp_in (p1) cap ∧ True ∧ True) (by with_unfolding_all rfl) ⟨trivial, trivial, trivial, g3, trivial, trivial⟩ ?_
      cases h
      exact am_ev_ret 0 0 0 rfl .int rfl rfl rfl
def fM_writeNode_P : Nat → cN → cP → Int32 → Option (cP)
  | 0, _, _, _ => none
  | d + 1, N, P, p2 =>
    match P with
    | (pr, pl, px) =>
    if pl < 0 then
    (some P)
    else
    if pl < (60 : Int32) then
    ((fN_kindOf N p2).bind fun z3 =>
    match z3 with
    | (r3) =>
    (fJ_hasParts r3).bind fun z4 =>
    match z4 with
    | (r4) =>
    if (am_bz r4) = 0 then
    ((fN_leftOf N p2).bind fun z6 =>
    match z6 with
    | (r6) =>
    if (pl < 0 ∨ 60 ≤ (pl).toNatClampNeg) then none else
    (fJ_hasParts r3).bind fun z8 =>
    match z8 with
    | (r8) =>
    if (am_bz r8) = 0 then
    (some ((upd pr (pl).toNatClampNeg (r3 + ((10 : Int32) * r6))), (pl + (1 : Int32)), px))
    else
    (fN_leftOf N p2).bind fun z10 =>
    match z10 with
    | (r10) =>
    (fM_writeNode_P d N ((upd pr (pl).toNatClampNeg (r3 + ((10 : Int32) * r6))), (pl + (1 : Int32)), px) r10).bind fun z11 =>
    match z11 with
    | (P_11) =>
    (fN_rightOf N p2).bind fun z12 =>
    match z12 with
    | (r12) =>
    (fM_writeNode_P d N P_11 r12).bind fun z13 =>
    match z13 with
    | (P_13) =>
    some P_13)
    else
    if (pl < 0 ∨ 60 ≤ (pl).toNatClampNeg) then none else
    (fJ_hasParts r3).bind fun z15 =>
    match z15 with
    | (r15) =>
    if (am_bz r15) = 0 then
    (some ((upd pr (pl).toNatClampNeg r3), (pl + (1 : Int32)), px))
    else
    (fN_leftOf N p2).bind fun z17 =>
    match z17 with
    | (r17) =>
    (fM_writeNode_P d N ((upd pr (pl).toNatClampNeg r3), (pl + (1 : Int32)), px) r17).bind fun z18 =>
    match z18 with
    | (P_18) =>
    (fN_rightOf N p2).bind fun z19 =>
    match z19 with
    | (r19) =>
    (fM_writeNode_P d N P_18 r19).bind fun z20 =>
    match z20 with
    | (P_20) =>
    some P_20)
    else
    some P
set_option maxHeartbeats 4000000 in
set_option maxRecDepth 100000 in
theorem ok_fM_writeNode_P  : ∀ {d : Nat} {N : cN} {C : cC} {E : cE} {F : cF} {P : cP} {Q : cQ} {k n : Nat} {p2 : Int32} {P' : cP} (h : fM_writeNode_P d N P p2 = some P') (D : Nat) (hD : d + 1 ≤ D), am_Call D 22 [.ref 15, .ref 1, .int p2] (W9 N C E F P Q) k n (.inl none, W9 N C E F P' Q, k, n) := by
  intro d
  induction d with
  | zero => intros; rename_i h _ _; cases h
  | succ d ih0 =>
    intro N C E F P Q k n p2 P' h D hD
    have ih := fun {N} {C} {E} {F} {P} {Q} {k} {n} {p2} {P'} h D hD => @ih0 N C E F P Q k n p2 P' h D hD
    unfold fM_writeNode_P at h
    obtain ⟨D, rfl⟩ : ∃ D', D = D' + 1 := ⟨D - 1, by omega⟩
    refine am_call_run (by decide) (by decide) rfl (Nat.le_of_ble_eq_true rfl) (by decide) (L := [(0, .ref 15), (1, .ref 1), (2, .int p2)]) rfl ?_
    obtain ⟨pr, pl, px⟩ := P
    try dsimp only at h
    refine am_ev_st 3 (f' := am_br (pl < 0) 16 4 [(0, .ref 15), (1, .ref 1), (2, .int p2)] [] (W9 N C E F (pr, pl, px) Q) k n) (g := True ∧ True ∧ True ∧ True) (by with_unfolding_all rfl) ⟨trivial, trivial, trivial, trivial⟩ ?_
    by_cases c1 : pl < 0
    · rw [if_pos c1] at h
      refine am_ev_pos c1 ?_
      cases h
      exact am_ev_vret 0 0 0 rfl rfl rfl
    · rw [if_neg c1] at h
      refine am_ev_neg c1 ?_
      refine am_ev_st 4 (f' := am_br (pl < (60 : Int32)) 17 13 [(0, .ref 15), (1, .ref 1), (2, .int p2)] [] (W9 N C E F (pr, pl, px) Q) k n) (g := True ∧ True ∧ True ∧ True ∧ True) (by with_unfolding_all rfl) ⟨trivial, trivial, trivial, trivial, trivial⟩ ?_
      by_cases c2 : pl < (60 : Int32)
      · rw [if_pos c2] at h
        refine am_ev_pos c2 ?_
        refine am_ev_st 2 (f' := (19, [(0, .ref 15), (1, .ref 1), (2, .int p2)], [.int p2, .ref 1], (W9 N C E F (pr, pl, px) Q), k, n)) (g := True ∧ True ∧ True) (by with_unfolding_all rfl) ⟨trivial, trivial, trivial⟩ ?_
        replace h := Option.bind_eq_some_iff.mp h
        obtain ⟨r3, hc3, h⟩ := h
        try dsimp only at h
        refine am_ev_call (.invokevirtual 30) 28 2 260 [.ref 1, .int p2] [] rfl rfl rfl rfl (ok_fN_kindOf hc3 D (by omega)) rfl ?_
        refine am_ev_st 6 (f' := (32, [(3, .int r3), (0, .ref 15), (1, .ref 1), (2, .int p2)], [.int r3, .int pl, .ref 16], (W9 N C E F (pr, pl, px) Q), k, n)) (g := True ∧ True ∧ True ∧ True ∧ True ∧ True ∧ True) (by with_unfolding_all rfl) ⟨trivial, trivial, trivial, trivial, trivial, trivial, trivial⟩ ?_
        replace h := Option.bind_eq_some_iff.mp h
        obtain ⟨r4, hc4, h⟩ := h
        try dsimp only at h
        refine am_ev_call (.invokestatic 35) 69 3 264 [.int r3] [.int pl, .ref 16] rfl rfl rfl rfl (ok_fJ_hasParts hc4 D (by omega)) rfl ?_
        refine am_ev_st 1 (f' := am_br ((am_bz r4) = 0) 42 35 [(3, .int r3), (0, .ref 15), (1, .ref 1), (2, .int p2)] [.int pl, .ref 16] (W9 N C E F (pr, pl, px) Q) k n) (g := True ∧ True) (by with_unfolding_all rfl) ⟨trivial, trivial⟩ ?_
        by_cases c5 : (am_bz r4) = 0
        · rw [if_pos c5] at h
          refine am_ev_pos c5 ?_
          refine am_ev_st 4 (f' := (47, [(3, .int r3), (0, .ref 15), (1, .ref 1), (2, .int p2)], [.int p2, .ref 1, .int (10 : Int32), .int r3, .int pl, .ref 16], (W9 N C E F (pr, pl, px) Q), k, n)) (g := True ∧ True ∧ True ∧ True ∧ True) (by with_unfolding_all rfl) ⟨trivial, trivial, trivial, trivial, trivial⟩ ?_
          replace h := Option.bind_eq_some_iff.mp h
          obtain ⟨r6, hc6, h⟩ := h
          try dsimp only at h
          refine am_ev_call (.invokevirtual 39) 29 2 265 [.ref 1, .int p2] [.int (10 : Int32), .int r3, .int pl, .ref 16] rfl rfl rfl rfl (ok_fN_leftOf hc6 D (by omega)) rfl ?_
          by_cases g7 : (pl < 0 ∨ 60 ≤ (pl).toNatClampNeg)
          · rw [if_pos g7] at h; cases h
          rw [if_neg g7] at h
          refine am_ev_st 10 (f' := (64, [(3, .int r3), (0, .ref 15), (1, .ref 1), (2, .int p2)], [.int r3], (W9 N C E F ((upd pr (pl).toNatClampNeg (r3 + ((10 : Int32) * r6))), (pl + (1 : Int32)), px) Q), k, n)) (g := True ∧ True ∧ vp_in (pl) 60 ∧ True ∧ True ∧ True ∧ True ∧ True ∧ True ∧ True ∧ True) (by with_unfolding_all rfl) ⟨trivial, trivial, g7, trivial, trivial, trivial, trivial, trivial, trivial, trivial, trivial⟩ ?_
          replace h := Option.bind_eq_some_iff.mp h
          obtain ⟨r8, hc8, h⟩ := h
          try dsimp only at h
          refine am_ev_call (.invokestatic 35) 69 3 264 [.int r3] [] rfl rfl rfl rfl (ok_fJ_hasParts hc8 D (by omega)) rfl ?_
          refine am_ev_st 1 (f' := am_br ((am_bz r8) = 0) 90 67 [(3, .int r3), (0, .ref 15), (1, .ref 1), (2, .int p2)] [] (W9 N C E F ((upd pr (pl).toNatClampNeg (r3 + ((10 : Int32) * r6))), (pl + (1 : Int32)), px) Q) k n) (g := True ∧ True) (by with_unfolding_all rfl) ⟨trivial, trivial⟩ ?_
          by_cases c9 : (am_bz r8) = 0
          · rw [if_pos c9] at h
            refine am_ev_pos c9 ?_
            cases h
            exact am_ev_vret 0 0 0 rfl rfl rfl
          · rw [if_neg c9] at h
            refine am_ev_neg c9 ?_
            refine am_ev_st 4 (f' := (74, [(3, .int r3), (0, .ref 15), (1, .ref 1), (2, .int p2)], [.int p2, .ref 1, .ref 1, .ref 15], (W9 N C E F ((upd pr (pl).toNatClampNeg (r3 + ((10 : Int32) * r6))), (pl + (1 : Int32)), px) Q), k, n)) (g := True ∧ True ∧ True ∧ True ∧ True) (by with_unfolding_all rfl) ⟨trivial, trivial, trivial, trivial, trivial⟩ ?_
            replace h := Option.bind_eq_some_iff.mp h
            obtain ⟨r10, hc10, h⟩ := h
            try dsimp only at h
            refine am_ev_call (.invokevirtual 39) 29 2 265 [.ref 1, .int p2] [.ref 1, .ref 15] rfl rfl rfl rfl (ok_fN_leftOf hc10 D (by omega)) rfl ?_
            replace h := Option.bind_eq_some_iff.mp h
            obtain ⟨P_11, hc11, h⟩ := h
            try dsimp only at h
            refine am_ev_call (.invokevirtual 26) 22 4 256 [.ref 15, .ref 1, .int r10] [] rfl rfl rfl rfl (ih hc11 D (by omega)) rfl ?_
            refine am_ev_st 4 (f' := (84, [(3, .int r3), (0, .ref 15), (1, .ref 1), (2, .int p2)], [.int p2, .ref 1, .ref 1, .ref 15], (W9 N C E F P_11 Q), k, n)) (g := True ∧ True ∧ True ∧ True ∧ True) (by with_unfolding_all rfl) ⟨trivial, trivial, trivial, trivial, trivial⟩ ?_
            replace h := Option.bind_eq_some_iff.mp h
            obtain ⟨r12, hc12, h⟩ := h
            try dsimp only at h
            refine am_ev_call (.invokevirtual 42) 30 2 269 [.ref 1, .int p2] [.ref 1, .ref 15] rfl rfl rfl rfl (ok_fN_rightOf hc12 D (by omega)) rfl ?_
            replace h := Option.bind_eq_some_iff.mp h
            obtain ⟨P_13, hc13, h⟩ := h
            try dsimp only at h
            refine am_ev_call (.invokevirtual 26) 22 4 256 [.ref 15, .ref 1, .int r12] [] rfl rfl rfl rfl (ih hc13 D (by omega)) rfl ?_
            cases h
            exact am_ev_vret 0 0 0 rfl rfl rfl
        · rw [if_neg c5] at h
          refine am_ev_neg c5 ?_
          by_cases g14 : (pl < 0 ∨ 60 ≤ (pl).toNatClampNeg)
          · rw [if_pos g14] at h; cases h
          rw [if_neg g14] at h
          refine am_ev_st 10 (f' := (64, [(3, .int r3), (0, .ref 15), (1, .ref 1), (2, .int p2)], [.int r3], (W9 N C E F ((upd pr (pl).toNatClampNeg r3), (pl + (1 : Int32)), px) Q), k, n)) (g := True ∧ True ∧ vp_in (pl) 60 ∧ True ∧ True ∧ True ∧ True ∧ True ∧ True ∧ True ∧ True) (by with_unfolding_all rfl) ⟨trivial, trivial, g14, trivial, trivial, trivial, trivial, trivial, trivial, trivial, trivial⟩ ?_
          replace h := Option.bind_eq_some_iff.mp h
          obtain ⟨r15, hc15, h⟩ := h
          try dsimp only at h
          refine am_ev_call (.invokestatic 35) 69 3 264 [.int r3] [] rfl rfl rfl rfl (ok_fJ_hasParts hc15 D (by omega)) rfl ?_
          refine am_ev_st 1 (f' := am_br ((am_bz r15) = 0) 90 67 [(3, .int r3), (0, .ref 15), (1, .ref 1), (2, .int p2)] [] (W9 N C E F ((upd pr (pl).toNatClampNeg r3), (pl + (1 : Int32)), px) Q) k n) (g := True ∧ True) (by with_unfolding_all rfl) ⟨trivial, trivial⟩ ?_
          by_cases c16 : (am_bz r15) = 0
          · rw [if_pos c16] at h
            refine am_ev_pos c16 ?_
            cases h
            exact am_ev_vret 0 0 0 rfl rfl rfl
          · rw [if_neg c16] at h
            refine am_ev_neg c16 ?_
            refine am_ev_st 4 (f' := (74, [(3, .int r3), (0, .ref 15), (1, .ref 1), (2, .int p2)], [.int p2, .ref 1, .ref 1, .ref 15], (W9 N C E F ((upd pr (pl).toNatClampNeg r3), (pl + (1 : Int32)), px) Q), k, n)) (g := True ∧ True ∧ True ∧ True ∧ True) (by with_unfolding_all rfl) ⟨trivial, trivial, trivial, trivial, trivial⟩ ?_
            replace h := Option.bind_eq_some_iff.mp h
            obtain ⟨r17, hc17, h⟩ := h
            try dsimp only at h
            refine am_ev_call (.invokevirtual 39) 29 2 265 [.ref 1, .int p2] [.ref 1, .ref 15] rfl rfl rfl rfl (ok_fN_leftOf hc17 D (by omega)) rfl ?_
            replace h := Option.bind_eq_some_iff.mp h
            obtain ⟨P_18, hc18, h⟩ := h
            try dsimp only at h
            refine am_ev_call (.invokevirtual 26) 22 4 256 [.ref 15, .ref 1, .int r17] [] rfl rfl rfl rfl (ih hc18 D (by omega)) rfl ?_
            refine am_ev_st 4 (f' := (84, [(3, .int r3), (0, .ref 15), (1, .ref 1), (2, .int p2)], [.int p2, .ref 1, .ref 1, .ref 15], (W9 N C E F P_18 Q), k, n)) (g := True ∧ True ∧ True ∧ True ∧ True) (by with_unfolding_all rfl) ⟨trivial, trivial, trivial, trivial, trivial⟩ ?_
            replace h := Option.bind_eq_some_iff.mp h
            obtain ⟨r19, hc19, h⟩ := h
            try dsimp only at h
            refine am_ev_call (.invokevirtual 42) 30 2 269 [.ref 1, .int p2] [.ref 1, .ref 15] rfl rfl rfl rfl (ok_fN_rightOf hc19 D (by omega)) rfl ?_
            replace h := Option.bind_eq_some_iff.mp h
            obtain ⟨P_20, hc20, h⟩ := h
            try dsimp only at h
            refine am_ev_call (.invokevirtual 26) 22 4 256 [.ref 15, .ref 1, .int r19] [] rfl rfl rfl rfl (ih hc20 D (by omega)) rfl ?_
            cases h
            exact am_ev_vret 0 0 0 rfl rfl rfl
      · rw [if_neg c2] at h
        refine am_ev_neg c2 ?_
        cases h
        exact am_ev_vret 0 0 0 rfl rfl rfl
def fM_write_P (d : Nat) (N : cN) (P : cP) (p2 : Int32) : Option (Int32 × cP) :=
  match P with
  | (pr, pl, px) =>
  (fM_writeNode_P d N (pr, (0 : Int32), px) p2).bind fun z1 =>
  match z1 with
  | (P_1) =>
  match P_1 with
  | (pr_1, pl_1, px_1) =>
  some (pl_1, P_1)
set_option maxHeartbeats 4000000 in
set_option maxRecDepth 100000 in
theorem ok_fM_write_P {d : Nat} {N : cN} {C : cC} {E : cE} {F : cF} {P : cP} {Q : cQ} {k n : Nat} {p2 : Int32} {rv : Int32} {P' : cP} (h : fM_write_P d N P p2 = some (rv, P')) (D : Nat) (hD : d + 2 ≤ D) : am_Call D 21 [.ref 15, .ref 1, .int p2] (W9 N C E F P Q) k n (.inl (some (.int rv)), W9 N C E F P' Q, k, n) := by
  unfold fM_write_P at h
  obtain ⟨D, rfl⟩ : ∃ D', D = D' + 1 := ⟨D - 1, by omega⟩
  have hD : d + 1 ≤ D := by omega
  refine am_call_run (by decide) (by decide) rfl (Nat.le_of_ble_eq_true rfl) (by decide) (L := [(0, .ref 15), (1, .ref 1), (2, .int p2)]) rfl ?_
  obtain ⟨pr, pl, px⟩ := P
  try dsimp only at h
  refine am_ev_st 6 (f' := (8, [(0, .ref 15), (1, .ref 1), (2, .int p2)], [.int p2, .ref 1, .ref 15], (W9 N C E F (pr, (0 : Int32), px) Q), k, n)) (g := True ∧ True ∧ True ∧ True ∧ True ∧ True ∧ True) (by with_unfolding_all rfl) ⟨trivial, trivial, trivial, trivial, trivial, trivial, trivial⟩ ?_
  replace h := Option.bind_eq_some_iff.mp h
  obtain ⟨P_1, hc1, h⟩ := h
  try dsimp only at h
  refine am_ev_call (.invokevirtual 26) 22 4 256 [.ref 15, .ref 1, .int p2] [] rfl rfl rfl rfl (ok_fM_writeNode_P hc1 D (by omega)) rfl ?_
  obtain ⟨pr_1, pl_1, px_1⟩ := P_1
  try dsimp only at h
  refine am_ev_st 2 (f' := (15, [(0, .ref 15), (1, .ref 1), (2, .int p2)], [.int pl_1], (W9 N C E F (pr_1, pl_1, px_1) Q), k, n)) (g := True ∧ True ∧ True) (by with_unfolding_all rfl) ⟨trivial, trivial, trivial⟩ ?_
  cases h
  exact am_ev_ret 0 0 0 rfl .int rfl rfl rfl
def fC_typeAt (C : cC) (p1 : Int32) : Option (Int32) :=
  (fC_isThere C p1).bind fun z1 =>
  match z1 with
  | (r1) =>
  if (am_bz r1) = 0 then
  (some (-1 : Int32))
  else
  match C with
  | (ct, cb, cm) =>
  if (p1 < 0 ∨ 16 ≤ (p1).toNatClampNeg) then none else
  some (ct (p1).toNatClampNeg)
set_option maxHeartbeats 4000000 in
set_option maxRecDepth 100000 in
theorem ok_fC_typeAt  {N : cN} {C : cC} {E : cE} {F : cF} {P : cP} {Q : cQ} {k n : Nat} {p1 : Int32} {rv : Int32} (h : fC_typeAt C p1 = some rv) (D : Nat) (hD : 2 ≤ D) : am_Call D 4 [.ref 7, .int p1] (W9 N C E F P Q) k n (.inl (some (.int rv)), W9 N C E F P Q, k, n) := by
  unfold fC_typeAt at h
  obtain ⟨D, rfl⟩ : ∃ D', D = D' + 1 := ⟨D - 1, by omega⟩
  have hD : 1 ≤ D := by omega
  refine am_call_run (by decide) (by decide) rfl (Nat.le_of_ble_eq_true rfl) (by decide) (L := [(0, .ref 7), (1, .int p1)]) rfl ?_
  refine am_ev_st 2 (f' := (2, [(0, .ref 7), (1, .int p1)], [.int p1, .ref 7], (W9 N C E F P Q), k, n)) (g := True ∧ True ∧ True) (by with_unfolding_all rfl) ⟨trivial, trivial, trivial⟩ ?_
  replace h := Option.bind_eq_some_iff.mp h
  obtain ⟨r1, hc1, h⟩ := h
  try dsimp only at h
  refine am_ev_call (.invokevirtual 22) 3 2 243 [.ref 7, .int p1] [] rfl rfl rfl rfl (ok_fC_isThere hc1 D (by omega)) rfl ?_
  refine am_ev_st 1 (f' := am_br ((am_bz r1) = 0) 17 5 [(0, .ref 7), (1, .int p1)] [] (W9 N C E F P Q) k n) (g := True ∧ True) (by with_unfolding_all rfl) ⟨trivial, trivial⟩ ?_
  by_cases c2 : (am_bz r1) = 0
  · rw [if_pos c2] at h
    refine am_ev_pos c2 ?_
    refine am_ev_st 1 (f' := (18, [(0, .ref 7), (1, .int p1)], [.int (-1 : Int32)], (W9 N C E F P Q), k, n)) (g := True ∧ True) (by with_unfolding_all rfl) ⟨trivial, trivial⟩ ?_
    cases h
    exact am_ev_ret 0 0 0 rfl .int rfl rfl rfl
  · rw [if_neg c2] at h
    refine am_ev_neg c2 ?_
    obtain ⟨ct, cb, cm⟩ := C
    try dsimp only at h
    by_cases g3 : (p1 < 0 ∨ 16 ≤ (p1).toNatClampNeg)
    · rw [if_pos g3] at h; cases h
    rw [if_neg g3] at h
    refine am_ev_st 5 (f' := (18, [(0, .ref 7), (1, .int p1)], [.int (ct (p1).toNatClampNeg)], (W9 N (ct, cb, cm) E F P Q), k, n)) (g := True ∧ True ∧ True ∧ vp_in (p1) 16 ∧ True ∧ True) (by with_unfolding_all rfl) ⟨trivial, trivial, trivial, g3, trivial, trivial⟩ ?_
    cases h
    exact am_ev_ret 0 0 0 rfl .int rfl rfl rfl
def fJ_typeOf (d : Nat) (N : cN) (C : cC) (P : cP) (p1 : Int32) : Option (Int32 × cP) :=
  (fC_isThere C p1).bind fun z1 =>
  match z1 with
  | (r1) =>
  if (am_bz r1) ≠ 0 then
  ((fC_typeAt C p1).bind fun z3 =>
  match z3 with
  | (r3) =>
  (fM_write_P d N P r3).bind fun z4 =>
  match z4 with
  | (r4, P_4) =>
  some (r4, P_4))
  else
  some ((-1 : Int32), P)
set_option maxHeartbeats 4000000 in
set_option maxRecDepth 100000 in
theorem ok_fJ_typeOf {d : Nat} {N : cN} {C : cC} {E : cE} {F : cF} {P : cP} {Q : cQ} {k n : Nat} {p1 : Int32} {rv : Int32} {P' : cP} (h : fJ_typeOf d N C P p1 = some (rv, P')) (D : Nat) (hD : d + 3 ≤ D) : am_Call D 66 [.ref 0, .int p1] (W9 N C E F P Q) k n (.inl (some (.int rv)), W9 N C E F P' Q, k, n) := by
  unfold fJ_typeOf at h
  obtain ⟨D, rfl⟩ : ∃ D', D = D' + 1 := ⟨D - 1, by omega⟩
  have hD : d + 2 ≤ D := by omega
  refine am_call_run (by decide) (by decide) rfl (Nat.le_of_ble_eq_true rfl) (by decide) (L := [(0, .ref 0), (1, .int p1)]) rfl ?_
  refine am_ev_st 3 (f' := (5, [(0, .ref 0), (1, .int p1)], [.int p1, .ref 7], (W9 N C E F P Q), k, n)) (g := True ∧ True ∧ True ∧ True) (by with_unfolding_all rfl) ⟨trivial, trivial, trivial, trivial⟩ ?_
  replace h := Option.bind_eq_some_iff.mp h
  obtain ⟨r1, hc1, h⟩ := h
  try dsimp only at h
  refine am_ev_call (.invokevirtual 131) 3 2 185 [.ref 7, .int p1] [] rfl rfl rfl rfl (ok_fC_isThere hc1 D (by omega)) rfl ?_
  refine am_ev_st 1 (f' := am_br ((am_bz r1) ≠ 0) 13 8 [(0, .ref 0), (1, .int p1)] [] (W9 N C E F P Q) k n) (g := True ∧ True) (by with_unfolding_all rfl) ⟨trivial, trivial⟩ ?_
  by_cases c2 : (am_bz r1) ≠ 0
  · rw [if_pos c2] at h
    refine am_ev_pos c2 ?_
    refine am_ev_st 7 (f' := (26, [(0, .ref 0), (1, .int p1)], [.int p1, .ref 7, .ref 1, .ref 15], (W9 N C E F P Q), k, n)) (g := True ∧ True ∧ True ∧ True ∧ True ∧ True ∧ True ∧ True) (by with_unfolding_all rfl) ⟨trivial, trivial, trivial, trivial, trivial, trivial, trivial, trivial⟩ ?_
    replace h := Option.bind_eq_some_iff.mp h
    obtain ⟨r3, hc3, h⟩ := h
    try dsimp only at h
    refine am_ev_call (.invokevirtual 134) 4 2 248 [.ref 7, .int p1] [.ref 1, .ref 15] rfl rfl rfl rfl (ok_fC_typeAt hc3 D (by omega)) rfl ?_
    replace h := Option.bind_eq_some_iff.mp h
    obtain ⟨⟨r4, P_4⟩, hc4, h⟩ := h
    try dsimp only at h
    refine am_ev_call (.invokevirtual 93) 21 4 252 [.ref 15, .ref 1, .int r3] [] rfl rfl rfl rfl (ok_fM_write_P hc4 D (by omega)) rfl ?_
    cases h
    exact am_ev_ret 0 0 0 rfl .int rfl rfl rfl
  · rw [if_neg c2] at h
    refine am_ev_neg c2 ?_
    refine am_ev_st 1 (f' := (12, [(0, .ref 0), (1, .int p1)], [.int (-1 : Int32)], (W9 N C E F P Q), k, n)) (g := True ∧ True) (by with_unfolding_all rfl) ⟨trivial, trivial⟩ ?_
    cases h
    exact am_ev_ret 0 0 0 rfl .int rfl rfl rfl
def fM_isEmpty_P (P : cP) : Option (Bool) :=
  match P with
  | (pr, pl, px) =>
  if pl ≠ 0 then
  (some false)
  else
  some true
set_option maxHeartbeats 4000000 in
set_option maxRecDepth 100000 in
theorem ok_fM_isEmpty_P  {N : cN} {C : cC} {E : cE} {F : cF} {P : cP} {Q : cQ} {k n : Nat} {rv : Bool} (h : fM_isEmpty_P P = some rv) (D : Nat) (hD : 1 ≤ D) : am_Call D 18 [.ref 15] (W9 N C E F P Q) k n (.inl (some (.int (am_bz rv))), W9 N C E F P Q, k, n) := by
  unfold fM_isEmpty_P at h
  obtain ⟨D, rfl⟩ : ∃ D', D = D' + 1 := ⟨D - 1, by omega⟩
  have hD : 0 ≤ D := by omega
  refine am_call_run (by decide) (by decide) rfl (Nat.le_of_ble_eq_true rfl) (by decide) (L := [(0, .ref 15)]) rfl ?_
  obtain ⟨pr, pl, px⟩ := P
  try dsimp only at h
  refine am_ev_st 3 (f' := am_br (pl ≠ 0) 11 4 [(0, .ref 15)] [] (W9 N C E F (pr, pl, px) Q) k n) (g := True ∧ True ∧ True ∧ True) (by with_unfolding_all rfl) ⟨trivial, trivial, trivial, trivial⟩ ?_
  by_cases c1 : pl ≠ 0
  · rw [if_pos c1] at h
    refine am_ev_pos c1 ?_
    refine am_ev_st 1 (f' := (12, [(0, .ref 15)], [.int (0 : Int32)], (W9 N C E F (pr, pl, px) Q), k, n)) (g := True ∧ True) (by with_unfolding_all rfl) ⟨trivial, trivial⟩ ?_
    cases h
    exact am_ev_ret 0 0 0 rfl .boolean rfl am_n0 rfl
  · rw [if_neg c1] at h
    refine am_ev_neg c1 ?_
    refine am_ev_st 2 (f' := (12, [(0, .ref 15)], [.int (1 : Int32)], (W9 N C E F (pr, pl, px) Q), k, n)) (g := True ∧ True ∧ True) (by with_unfolding_all rfl) ⟨trivial, trivial, trivial⟩ ?_
    cases h
    exact am_ev_ret 0 0 0 rfl .boolean rfl am_n1 rfl
def fM_at_P (P : cP) (p1 : Int32) : Option (Int32) :=
  if p1 < 0 then
  (some (-1 : Int32))
  else
  match P with
  | (pr, pl, px) =>
  if pl ≤ p1 then
  (some (-1 : Int32))
  else
  if (60 : Int32) ≤ p1 then
  (some (-1 : Int32))
  else
  if (p1 < 0 ∨ 60 ≤ (p1).toNatClampNeg) then none else
  some (pr (p1).toNatClampNeg)
set_option maxHeartbeats 4000000 in
set_option maxRecDepth 100000 in
theorem ok_fM_at_P  {N : cN} {C : cC} {E : cE} {F : cF} {P : cP} {Q : cQ} {k n : Nat} {p1 : Int32} {rv : Int32} (h : fM_at_P P p1 = some rv) (D : Nat) (hD : 1 ≤ D) : am_Call D 19 [.ref 15, .int p1] (W9 N C E F P Q) k n (.inl (some (.int rv)), W9 N C E F P Q, k, n) := by
  unfold fM_at_P at h
  obtain ⟨D, rfl⟩ : ∃ D', D = D' + 1 := ⟨D - 1, by omega⟩
  have hD : 0 ≤ D := by omega
  refine am_call_run (by decide) (by decide) rfl (Nat.le_of_ble_eq_true rfl) (by decide) (L := [(0, .ref 15), (1, .int p1)]) rfl ?_
  refine am_ev_st 2 (f' := am_br (p1 < 0) 27 1 [(0, .ref 15), (1, .int p1)] [] (W9 N C E F P Q) k n) (g := True ∧ True ∧ True) (by with_unfolding_all rfl) ⟨trivial, trivial, trivial⟩ ?_
  by_cases c1 : p1 < 0
  · rw [if_pos c1] at h
    refine am_ev_pos c1 ?_
    refine am_ev_st 1 (f' := (28, [(0, .ref 15), (1, .int p1)], [.int (-1 : Int32)], (W9 N C E F P Q), k, n)) (g := True ∧ True) (by with_unfolding_all rfl) ⟨trivial, trivial⟩ ?_
    cases h
    exact am_ev_ret 0 0 0 rfl .int rfl rfl rfl
  · rw [if_neg c1] at h
    refine am_ev_neg c1 ?_
    obtain ⟨pr, pl, px⟩ := P
    try dsimp only at h
    refine am_ev_st 4 (f' := am_br (pl ≤ p1) 27 9 [(0, .ref 15), (1, .int p1)] [] (W9 N C E F (pr, pl, px) Q) k n) (g := True ∧ True ∧ True ∧ True ∧ True) (by with_unfolding_all rfl) ⟨trivial, trivial, trivial, trivial, trivial⟩ ?_
    by_cases c2 : pl ≤ p1
    · rw [if_pos c2] at h
      refine am_ev_pos c2 ?_
      refine am_ev_st 1 (f' := (28, [(0, .ref 15), (1, .int p1)], [.int (-1 : Int32)], (W9 N C E F (pr, pl, px) Q), k, n)) (g := True ∧ True) (by with_unfolding_all rfl) ⟨trivial, trivial⟩ ?_
      cases h
      exact am_ev_ret 0 0 0 rfl .int rfl rfl rfl
    · rw [if_neg c2] at h
      refine am_ev_neg c2 ?_
      refine am_ev_st 3 (f' := am_br ((60 : Int32) ≤ p1) 27 15 [(0, .ref 15), (1, .int p1)] [] (W9 N C E F (pr, pl, px) Q) k n) (g := True ∧ True ∧ True ∧ True) (by with_unfolding_all rfl) ⟨trivial, trivial, trivial, trivial⟩ ?_
      by_cases c3 : (60 : Int32) ≤ p1
      · rw [if_pos c3] at h
        refine am_ev_pos c3 ?_
        refine am_ev_st 1 (f' := (28, [(0, .ref 15), (1, .int p1)], [.int (-1 : Int32)], (W9 N C E F (pr, pl, px) Q), k, n)) (g := True ∧ True) (by with_unfolding_all rfl) ⟨trivial, trivial⟩ ?_
        cases h
        exact am_ev_ret 0 0 0 rfl .int rfl rfl rfl
      · rw [if_neg c3] at h
        refine am_ev_neg c3 ?_
        by_cases g4 : (p1 < 0 ∨ 60 ≤ (p1).toNatClampNeg)
        · rw [if_pos g4] at h; cases h
        rw [if_neg g4] at h
        refine am_ev_st 5 (f' := (28, [(0, .ref 15), (1, .int p1)], [.int (pr (p1).toNatClampNeg)], (W9 N C E F (pr, pl, px) Q), k, n)) (g := True ∧ True ∧ True ∧ vp_in (p1) 60 ∧ True ∧ True) (by with_unfolding_all rfl) ⟨trivial, trivial, trivial, g4, trivial, trivial⟩ ?_
        cases h
        exact am_ev_ret 0 0 0 rfl .int rfl rfl rfl
def lp_fM_hasTooGreat_P_2 (fl : Nat) : Nat → cP → Int32 → Int32 → Option (Bool)
  | 0, _, _, _ => none
  | w + 1, P, v1, v2 =>
    match P with
    | (pr, pl, px) =>
    if pl ≤ v2 then
    (some false)
    else
    (fM_at_P P v2).bind fun z2 =>
    match z2 with
    | (r2) =>
    if (r2 - r2 / (10 : Int32) * (10 : Int32)) ≠ v1 then
    (lp_fM_hasTooGreat_P_2 fl w P v1 (v2 + (1 : Int32)))
    else
    (fM_at_P P v2).bind fun z4 =>
    match z4 with
    | (r4) =>
    if (r4 / (10 : Int32)) ≤ (9 : Int32) then
    (lp_fM_hasTooGreat_P_2 fl w P v1 (v2 + (1 : Int32)))
    else
    some true
def fM_hasTooGreat_P (fl : Nat) (P : cP) (p1 : Int32) : Option (Bool) :=
  lp_fM_hasTooGreat_P_2 fl fl P p1 (0 : Int32)
set_option maxHeartbeats 4000000 in
set_option maxRecDepth 100000 in
theorem ok_lp_fM_hasTooGreat_P_2 {fl : Nat} : ∀ {w : Nat} {N : cN} {C : cC} {E : cE} {F : cF} {P : cP} {Q : cQ} {k n : Nat} {v1 : Int32} {v2 : Int32} {rv : Bool} (h : lp_fM_hasTooGreat_P_2 fl w P v1 v2 = some rv) (D : Nat) (hD : 1 ≤ D), am_Ev D 20 0 (fun _ => 0) (2, [(0, .ref 15), (1, .int v1), (2, .int v2)], [], (W9 N C E F P Q), k, n) (.inl (some (.int (am_bz rv))), W9 N C E F P Q, k, n) := by
  intro w
  induction w with
  | zero => intros; rename_i h _ _; cases h
  | succ w ih0 =>
    intro N C E F P Q k n v1 v2 rv h D hD
    have ih := fun {N} {C} {E} {F} {P} {Q} {k} {n} {v1} {v2} {rv} h => @ih0 N C E F P Q k n v1 v2 rv h D hD
    unfold lp_fM_hasTooGreat_P_2 at h
    obtain ⟨pr, pl, px⟩ := P
    try dsimp only at h
    refine am_ev_st 4 (f' := am_br (pl ≤ v2) 43 7 [(0, .ref 15), (1, .int v1), (2, .int v2)] [] (W9 N C E F (pr, pl, px) Q) k n) (g := True ∧ True ∧ True ∧ True ∧ True) (by with_unfolding_all rfl) ⟨trivial, trivial, trivial, trivial, trivial⟩ ?_
    by_cases c1 : pl ≤ v2
    · rw [if_pos c1] at h
      refine am_ev_pos c1 ?_
      refine am_ev_st 1 (f' := (44, [(0, .ref 15), (1, .int v1), (2, .int v2)], [.int (0 : Int32)], (W9 N C E F (pr, pl, px) Q), k, n)) (g := True ∧ True) (by with_unfolding_all rfl) ⟨trivial, trivial⟩ ?_
      cases h
      exact am_ev_ret 0 0 0 rfl .boolean rfl am_n0 rfl
    · rw [if_neg c1] at h
      refine am_ev_neg c1 ?_
      refine am_ev_st 2 (f' := (12, [(0, .ref 15), (1, .int v1), (2, .int v2)], [.int v2, .ref 15], (W9 N C E F (pr, pl, px) Q), k, n)) (g := True ∧ True ∧ True) (by with_unfolding_all rfl) ⟨trivial, trivial, trivial⟩ ?_
      replace h := Option.bind_eq_some_iff.mp h
      obtain ⟨r2, hc2, h⟩ := h
      try dsimp only at h
      refine am_ev_call (.invokevirtual 22) 19 2 285 [.ref 15, .int v2] [] rfl rfl rfl rfl (ok_fM_at_P hc2 D (by omega)) rfl ?_
      refine am_ev_st 4 (f' := am_br ((r2 - r2 / (10 : Int32) * (10 : Int32)) ≠ v1) 37 19 [(0, .ref 15), (1, .int v1), (2, .int v2)] [] (W9 N C E F (pr, pl, px) Q) k n) (g := True ∧ ¬ ((10 : Int32) = 0) ∧ True ∧ True ∧ True) (by with_unfolding_all rfl) ⟨trivial, by decide, trivial, trivial, trivial⟩ ?_
      by_cases c3 : (r2 - r2 / (10 : Int32) * (10 : Int32)) ≠ v1
      · rw [if_pos c3] at h
        refine am_ev_pos c3 ?_
        refine am_ev_st 2 (f' := (2, [(2, .int (v2 + (1 : Int32))), (0, .ref 15), (1, .int v1)], [], (W9 N C E F (pr, pl, px) Q), k, n)) (g := True ∧ True ∧ True) (by with_unfolding_all rfl) ⟨trivial, trivial, trivial⟩ ?_
        refine am_ev_drop [1, 2, 0] rfl rfl ?_
        exact ih h
      · rw [if_neg c3] at h
        refine am_ev_neg c3 ?_
        refine am_ev_st 2 (f' := (24, [(0, .ref 15), (1, .int v1), (2, .int v2)], [.int v2, .ref 15], (W9 N C E F (pr, pl, px) Q), k, n)) (g := True ∧ True ∧ True) (by with_unfolding_all rfl) ⟨trivial, trivial, trivial⟩ ?_
        replace h := Option.bind_eq_some_iff.mp h
        obtain ⟨r4, hc4, h⟩ := h
        try dsimp only at h
        refine am_ev_call (.invokevirtual 22) 19 2 285 [.ref 15, .int v2] [] rfl rfl rfl rfl (ok_fM_at_P hc4 D (by omega)) rfl ?_
        refine am_ev_st 4 (f' := am_br ((r4 / (10 : Int32)) ≤ (9 : Int32)) 37 32 [(0, .ref 15), (1, .int v1), (2, .int v2)] [] (W9 N C E F (pr, pl, px) Q) k n) (g := True ∧ ¬ ((10 : Int32) = 0) ∧ True ∧ True ∧ True) (by with_unfolding_all rfl) ⟨trivial, by decide, trivial, trivial, trivial⟩ ?_
        by_cases c5 : (r4 / (10 : Int32)) ≤ (9 : Int32)
        · rw [if_pos c5] at h
          refine am_ev_pos c5 ?_
          refine am_ev_st 2 (f' := (2, [(2, .int (v2 + (1 : Int32))), (0, .ref 15), (1, .int v1)], [], (W9 N C E F (pr, pl, px) Q), k, n)) (g := True ∧ True ∧ True) (by with_unfolding_all rfl) ⟨trivial, trivial, trivial⟩ ?_
          refine am_ev_drop [1, 2, 0] rfl rfl ?_
          exact ih h
        · rw [if_neg c5] at h
          refine am_ev_neg c5 ?_
          refine am_ev_st 1 (f' := (36, [(0, .ref 15), (1, .int v1), (2, .int v2)], [.int (1 : Int32)], (W9 N C E F (pr, pl, px) Q), k, n)) (g := True ∧ True) (by with_unfolding_all rfl) ⟨trivial, trivial⟩ ?_
          cases h
          exact am_ev_ret 0 0 0 rfl .boolean rfl am_n1 rfl
set_option maxHeartbeats 4000000 in
set_option maxRecDepth 100000 in
theorem ok_fM_hasTooGreat_P {fl : Nat} {N : cN} {C : cC} {E : cE} {F : cF} {P : cP} {Q : cQ} {k n : Nat} {p1 : Int32} {rv : Bool} (h : fM_hasTooGreat_P fl P p1 = some rv) (D : Nat) (hD : 2 ≤ D) : am_Call D 20 [.ref 15, .int p1] (W9 N C E F P Q) k n (.inl (some (.int (am_bz rv))), W9 N C E F P Q, k, n) := by
  unfold fM_hasTooGreat_P at h
  obtain ⟨D, rfl⟩ : ∃ D', D = D' + 1 := ⟨D - 1, by omega⟩
  have hD : 1 ≤ D := by omega
  refine am_call_run (by decide) (by decide) rfl (Nat.le_of_ble_eq_true rfl) (by decide) (L := [(0, .ref 15), (1, .int p1)]) rfl ?_
  refine am_ev_st 2 (f' := (2, [(2, .int (0 : Int32)), (0, .ref 15), (1, .int p1)], [], (W9 N C E F P Q), k, n)) (g := True ∧ True ∧ True) (by with_unfolding_all rfl) ⟨trivial, trivial, trivial⟩ ?_
  refine am_ev_drop [1, 2, 0] rfl rfl ?_
  exact ok_lp_fM_hasTooGreat_P_2 h D hD
