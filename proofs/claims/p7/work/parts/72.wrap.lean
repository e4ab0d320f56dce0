theorem s_infer {fl d : Nat} (hfl : 10000 ≤ fl) (hd : 100 ≤ d) {q : Nat} {N : cN} {C : cC} {P : cP} {T : cT} {G : cG} {H : cH} {B : cB} {ct : Nat → tm} {bo : Nat → Option tm} (h : Iv q N C P T G H B ct bo) (E : cE) (F : cF) (k : Nat) (n : Nat) (U : cU) (O : cO) (J : cJ) (V : cV) (Y : cY) (Z : cZ) (O9 : cO9) (p1 p2 : Int32) :
    ∃ r N' E' F' P' O9' k' n' y H' B' O' J' V' Y' Z', fL_infer fl d N C E F P O9 k n p1 p2 = some (r, N', E', F', P', O9', (k', n')) ∧ fm_infer fl T G U H B O J V Y Z p1 p2 = some (y, r, H', B', O', J', V', Y', Z') ∧ (r = 0 → O9' 0 = y.toInt64) ∧ Iv q N' C P' T G H' B' ct bo ∧ Co N N' k n k' n' := by
  obtain ⟨x, N', E', F', P', k', n', y, U', H', B', O', J', V', Y', Z', e1, e2, iv, rc, co⟩ := b_infer hfl hd h E F k n U O J V Y Z p1 p2
  cases x with
  | inl v =>
    obtain ⟨rfl, rfl⟩ := rc
    refine ⟨jn 0, N', E', F', P', vp_updL O9 ((0 : Int32)).toNatClampNeg y.toInt64, k', n', y, H', B', O', J', V', Y', Z', ?_, e2, fun _ => if_pos (by decide), iv, co⟩
    unfold fL_infer
    exact bnd e1 (ifn (by decide) rfl)
  | inr e =>
    obtain ⟨he, rfl⟩ := rc
    have he3 : e = 0 ∨ e = 1 ∨ e = 2 := by omega
    rcases he3 with rfl | rfl | rfl
    · refine ⟨jn 1, N', E', F', P', O9, k', n', y, H', B', O', J', V', Y', Z', ?_, e2, fun h => absurd h (by decide), iv, co⟩
      unfold fL_infer
      exact bnd e1 (ifp rfl rfl)
    · refine ⟨jn 2, N', E', F', P', O9, k', n', y, H', B', O', J', V', Y', Z', ?_, e2, fun h => absurd h (by decide), iv, co⟩
      unfold fL_infer
      exact bnd e1 (ifn (by decide) (ifp rfl rfl))
    · refine ⟨jn 3, N', E', F', P', O9, k', n', y, H', B', O', J', V', Y', Z', ?_, e2, fun h => absurd h (by decide), iv, co⟩
      unfold fL_infer
      exact bnd e1 (ifn (by decide) (ifn (by decide) (ifp rfl rfl)))
theorem s_reduce {fl d : Nat} (hfl : 10000 ≤ fl) (hd : 100 ≤ d) {q : Nat} {N : cN} {C : cC} {P : cP} {T : cT} {G : cG} {H : cH} {B : cB} {ct : Nat → tm} {bo : Nat → Option tm} (h : Iv q N C P T G H B ct bo) (E : cE) (F : cF) (k : Nat) (n : Nat) (U : cU) (O : cO) (J : cJ) (V : cV) (O9 : cO9) (p1 p2 : Int32) :
    ∃ r N' E' F' P' O9' k' n' y H' B' O' J' V', fL_reduce fl d N C E F P O9 k n p1 p2 = some (r, N', E', F', P', O9', (k', n')) ∧ fm_reduce fl T G U H B O J V p1 p2 = some (y, r, H', B', O', J', V') ∧ (r = 0 → O9' 0 = y.toInt64) ∧ Iv q N' C P' T G H' B' ct bo ∧ Co N N' k n k' n' := by
  obtain ⟨x, N', E', F', P', k', n', y, U', H', B', O', J', V', e1, e2, iv, rc, co⟩ := b_reduce hfl hd h E F k n U O J V p1 p2
  cases x with
  | inl v =>
    obtain ⟨rfl, rfl⟩ := rc
    refine ⟨jn 0, N', E', F', P', vp_updL O9 ((0 : Int32)).toNatClampNeg y.toInt64, k', n', y, H', B', O', J', V', ?_, e2, fun _ => if_pos (by decide), iv, co⟩
    unfold fL_reduce
    exact bnd e1 (ifn (by decide) rfl)
  | inr e =>
    rcases rc with ⟨rfl, rfl⟩ | ⟨rfl, rfl⟩
    · refine ⟨jn 1, N', E', F', P', O9, k', n', y, H', B', O', J', V', ?_, e2, fun h => absurd h (by decide), iv, co⟩
      unfold fL_reduce
      exact bnd e1 (ifp rfl rfl)
    · refine ⟨jn 2, N', E', F', P', O9, k', n', y, H', B', O', J', V', ?_, e2, fun h => absurd h (by decide), iv, co⟩
      unfold fL_reduce
      exact bnd e1 (ifn (by decide) (ifp rfl rfl))
theorem s_same {fl d : Nat} (hfl : 10000 ≤ fl) (hd : 100 ≤ d) {q : Nat} {N : cN} {C : cC} {P : cP} {T : cT} {G : cG} {H : cH} {B : cB} {ct : Nat → tm} {bo : Nat → Option tm} (h : Iv q N C P T G H B ct bo) (E : cE) (F : cF) (k : Nat) (n : Nat) (U : cU) (O : cO) (J : cJ) (V : cV) (Z : cZ) (O9 : cO9) (p1 p2 p3 : Int32) :
    ∃ r N' E' F' O9' k' n' y B' O' J' V' Z', fL_same fl d N C E F O9 k n p1 p2 p3 = some (r, N', E', F', O9', (k', n')) ∧ fm_same fl T G U B O J V Z p1 p2 p3 = some (y, r, B', O', J', V', Z') ∧ (r = 0 → O9' 0 = (if y = true then 1 else 0)) ∧ Iv q N' C P T G H B' ct bo ∧ Co N N' k n k' n' := by
  obtain ⟨x, N', E', F', k', n', y, U', B', O', J', V', Z', e1, e2, iv, rc, co⟩ := b_same hfl hd h E F k n U O J V Z p1 p2 p3
  cases x with
  | inl v =>
    obtain ⟨rfl, rfl⟩ := rc
    cases y
    · refine ⟨jn 0, N', E', F', vp_updL O9 ((0 : Int32)).toNatClampNeg 0, k', n', false, B', O', J', V', Z', ?_, e2, fun _ => if_pos (by decide), iv, co⟩
      unfold fL_same
      exact bnd e1 (ifp rfl (ifn (by decide) rfl))
    · refine ⟨jn 0, N', E', F', vp_updL O9 ((0 : Int32)).toNatClampNeg 1, k', n', true, B', O', J', V', Z', ?_, e2, fun _ => if_pos (by decide), iv, co⟩
      unfold fL_same
      exact bnd e1 (ifn (by decide) (ifn (by decide) rfl))
  | inr e =>
    rcases rc with ⟨rfl, rfl⟩ | ⟨rfl, rfl⟩
    · refine ⟨jn 1, N', E', F', O9, k', n', y, B', O', J', V', Z', ?_, e2, fun h => absurd h (by decide), iv, co⟩
      unfold fL_same
      exact bnd e1 (ifp rfl rfl)
    · refine ⟨jn 2, N', E', F', O9, k', n', y, B', O', J', V', Z', ?_, e2, fun h => absurd h (by decide), iv, co⟩
      unfold fL_same
      exact bnd e1 (ifn (by decide) (ifp rfl rfl))
theorem s_check {fl d : Nat} (hfl : 10000 ≤ fl) (hd : 100 ≤ d) {q : Nat} {N : cN} {C : cC} {P : cP} {T : cT} {G : cG} {H : cH} {B : cB} {ct : Nat → tm} {bo : Nat → Option tm} (h : Iv q N C P T G H B ct bo) (E : cE) (F : cF) (k : Nat) (n : Nat) (U : cU) (O : cO) (J : cJ) (V : cV) (Y : cY) (Z : cZ) (O9 : cO9) (p1 p2 p3 : Int32) :
    ∃ r N' E' F' O9' k' n' y B' O' J' V' Y' Z', fL_check fl d N C E F O9 k n p1 p2 p3 = some (r, N', E', F', O9', (k', n')) ∧ fm_check fl T G U B O J V Y Z p1 p2 p3 = some (y, r, B', O', J', V', Y', Z') ∧ (r = 0 → O9' 0 = (if y = true then 1 else 0)) ∧ Iv q N' C P T G H B' ct bo ∧ Co N N' k n k' n' := by
  obtain ⟨x, N', E', F', k', n', y, U', B', O', J', V', Y', Z', e1, e2, iv, rc, co⟩ := b_check hfl hd h E F k n U O J V Y Z p1 p2 p3
  cases x with
  | inl v =>
    obtain ⟨rfl, rfl⟩ := rc
    cases y
    · refine ⟨jn 0, N', E', F', vp_updL O9 ((0 : Int32)).toNatClampNeg 0, k', n', false, B', O', J', V', Y', Z', ?_, e2, fun _ => if_pos (by decide), iv, co⟩
      unfold fL_check
      exact bnd e1 (ifp rfl (ifn (by decide) rfl))
    · refine ⟨jn 0, N', E', F', vp_updL O9 ((0 : Int32)).toNatClampNeg 1, k', n', true, B', O', J', V', Y', Z', ?_, e2, fun _ => if_pos (by decide), iv, co⟩
      unfold fL_check
      exact bnd e1 (ifn (by decide) (ifn (by decide) rfl))
  | inr e =>
    obtain ⟨he, rfl⟩ := rc
    have he3 : e = 0 ∨ e = 1 ∨ e = 2 := by omega
    rcases he3 with rfl | rfl | rfl
    · refine ⟨jn 1, N', E', F', O9, k', n', y, B', O', J', V', Y', Z', ?_, e2, fun h => absurd h (by decide), iv, co⟩
      unfold fL_check
      exact bnd e1 (ifp rfl rfl)
    · refine ⟨jn 2, N', E', F', O9, k', n', y, B', O', J', V', Y', Z', ?_, e2, fun h => absurd h (by decide), iv, co⟩
      unfold fL_check
      exact bnd e1 (ifn (by decide) (ifp rfl rfl))
    · refine ⟨jn 3, N', E', F', O9, k', n', y, B', O', J', V', Y', Z', ?_, e2, fun h => absurd h (by decide), iv, co⟩
      unfold fL_check
      exact bnd e1 (ifn (by decide) (ifn (by decide) (ifp rfl rfl)))
theorem s_declare {fl d : Nat} (hfl : 10000 ≤ fl) (hd : 100 ≤ d) {q : Nat} {N : cN} {C : cC} {P : cP} {T : cT} {G : cG} {H : cH} {B : cB} {ct : Nat → tm} {bo : Nat → Option tm} (h : Iv q N C P T G H B ct bo) (E : cE) (F : cF) (k : Nat) (n : Nat) (U : cU) (O : cO) (J : cJ) (V : cV) (Y : cY) (Z : cZ) (O9 : cO9) (p1 p2 : Int32) :
    ∃ r N' C' E' F' O9' k' n' y G' B' O' J' V' Y' Z' q' ct' bo', fL_declare fl d N C E F O9 k n p1 p2 = some (r, N', C', E', F', O9', (k', n')) ∧ fm_declare fl T G U B O J V Y Z p1 p2 = some (y, G', r, B', O', J', V', Y', Z') ∧ (r = 0 → O9' 0 = y.toInt64) ∧ Iv q' N' C' P T G' H B' ct' bo' ∧ Co N N' k n k' n' := by
  obtain ⟨x, N', C', E', F', k', n', y, G', U', B', O', J', V', Y', Z', q', ct', bo', e1, e2, iv, rc, co⟩ := b_declare hfl hd h E F k n U O J V Y Z p1 p2
  cases x with
  | inl v =>
    obtain ⟨rfl, rfl⟩ := rc
    refine ⟨jn 0, N', C', E', F', vp_updL O9 ((0 : Int32)).toNatClampNeg y.toInt64, k', n', y, G', B', O', J', V', Y', Z', q', ct', bo', ?_, e2, fun _ => if_pos (by decide), iv, co⟩
    unfold fL_declare
    exact bnd e1 (ifn (by decide) rfl)
  | inr e =>
    obtain ⟨he, rfl⟩ := rc
    have he3 : e = 0 ∨ e = 1 ∨ e = 2 := by omega
    rcases he3 with rfl | rfl | rfl
    · refine ⟨jn 1, N', C', E', F', O9, k', n', y, G', B', O', J', V', Y', Z', q', ct', bo', ?_, e2, fun h => absurd h (by decide), iv, co⟩
      unfold fL_declare
      exact bnd e1 (ifp rfl rfl)
    · refine ⟨jn 2, N', C', E', F', O9, k', n', y, G', B', O', J', V', Y', Z', q', ct', bo', ?_, e2, fun h => absurd h (by decide), iv, co⟩
      unfold fL_declare
      exact bnd e1 (ifn (by decide) (ifp rfl rfl))
    · refine ⟨jn 3, N', C', E', F', O9, k', n', y, G', B', O', J', V', Y', Z', q', ct', bo', ?_, e2, fun h => absurd h (by decide), iv, co⟩
      unfold fL_declare
      exact bnd e1 (ifn (by decide) (ifn (by decide) (ifp rfl rfl)))
theorem s_define {fl d : Nat} (hfl : 10000 ≤ fl) (hd : 100 ≤ d) {q : Nat} {N : cN} {C : cC} {P : cP} {T : cT} {G : cG} {H : cH} {B : cB} {ct : Nat → tm} {bo : Nat → Option tm} (h : Iv q N C P T G H B ct bo) (E : cE) (F : cF) (Q : cQ) (k : Nat) (n : Nat) (U : cU) (O : cO) (J : cJ) (V : cV) (Y : cY) (Z : cZ) (O9 : cO9) (p1 p2 : Int32) :
    ∃ r N' C' E' F' Q' O9' k' n' y G' B' O' J' V' Y' Z' q' ct' bo', fL_define fl d N C E F Q O9 k n p1 p2 = some (r, N', C', E', F', Q', O9', (k', n')) ∧ fm_define fl T G U B O J V Y Z p1 p2 = some (y, G', r, B', O', J', V', Y', Z') ∧ (r = 0 → O9' 0 = y.toInt64) ∧ Iv q' N' C' P T G' H B' ct' bo' ∧ Co N N' k n k' n' := by
  obtain ⟨x, N', C', E', F', Q', k', n', y, G', U', B', O', J', V', Y', Z', q', ct', bo', e1, e2, iv, rc, co⟩ := b_define hfl hd h E F Q k n U O J V Y Z p1 p2
  cases x with
  | inl v =>
    obtain ⟨rfl, rfl⟩ := rc
    refine ⟨jn 0, N', C', E', F', Q', vp_updL O9 ((0 : Int32)).toNatClampNeg y.toInt64, k', n', y, G', B', O', J', V', Y', Z', q', ct', bo', ?_, e2, fun _ => if_pos (by decide), iv, co⟩
    unfold fL_define
    exact bnd e1 (ifn (by decide) rfl)
  | inr e =>
    obtain ⟨he, rfl⟩ := rc
    have he3 : e = 0 ∨ e = 1 ∨ e = 2 := by omega
    rcases he3 with rfl | rfl | rfl
    · refine ⟨jn 1, N', C', E', F', Q', O9, k', n', y, G', B', O', J', V', Y', Z', q', ct', bo', ?_, e2, fun h => absurd h (by decide), iv, co⟩
      unfold fL_define
      exact bnd e1 (ifp rfl rfl)
    · refine ⟨jn 2, N', C', E', F', Q', O9, k', n', y, G', B', O', J', V', Y', Z', q', ct', bo', ?_, e2, fun h => absurd h (by decide), iv, co⟩
      unfold fL_define
      exact bnd e1 (ifn (by decide) (ifp rfl rfl))
    · refine ⟨jn 3, N', C', E', F', Q', O9, k', n', y, G', B', O', J', V', Y', Z', q', ct', bo', ?_, e2, fun h => absurd h (by decide), iv, co⟩
      unfold fL_define
      exact bnd e1 (ifn (by decide) (ifn (by decide) (ifp rfl rfl)))
